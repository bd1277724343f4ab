/-- the model's rows: how long each is -/
def szM : Nat → Nat
  | 0 => 400
  | 1 => 2
  | 2 => 16
  | 3 => 16
  | 4 => 96
  | 5 => 16
  | 6 => 16
  | 7 => 12
  | 8 => 12
  | 9 => 12
  | 10 => 6
  | 11 => 32
  | 12 => 32
  | 13 => 320
  | 14 => 3
  | 15 => 36
  | 16 => 2
  | 17 => 160
  | 18 => 8
  | 19 => 8
  | 20 => 256
  | 21 => 256
  | _ => 3328
/-- the model in cells 59 to 82: its rows A, its length, place and keptMany -/
def MO (w : Wd) (A : Nat → Nat → Nat) (len pl km : Nat) : Prop := w 59 = ob 7 [.int (nI len), .ref 60, .ref 61, .ref 62, .ref 63, .ref 64, .ref 65, .ref 66, .ref 67, .ref 68, .ref 69, .ref 70, .ref 71, .ref 72, .ref 73, .ref 74, .ref 75, .int (nI km), .int (nI pl), .ref 76, .ref 77, .ref 78, .ref 79, .ref 80, .ref 81, .ref 82] ∧ ∀ a, a < 23 → w (60 + a) = ai (szM a) (A a)
section MOS
variable {w w1 : Wd} {A : Nat → Nat → Nat} {len pl km : Nat}
theorem MO.a0 (h : MO w A len pl km) : w 60 = ai 400 (A 0) := h.2 0 (by decide)
theorem MO.a1 (h : MO w A len pl km) : w 61 = ai 2 (A 1) := h.2 1 (by decide)
theorem MO.a2 (h : MO w A len pl km) : w 62 = ai 16 (A 2) := h.2 2 (by decide)
theorem MO.a3 (h : MO w A len pl km) : w 63 = ai 16 (A 3) := h.2 3 (by decide)
theorem MO.a4 (h : MO w A len pl km) : w 64 = ai 96 (A 4) := h.2 4 (by decide)
theorem MO.a5 (h : MO w A len pl km) : w 65 = ai 16 (A 5) := h.2 5 (by decide)
theorem MO.a6 (h : MO w A len pl km) : w 66 = ai 16 (A 6) := h.2 6 (by decide)
theorem MO.a7 (h : MO w A len pl km) : w 67 = ai 12 (A 7) := h.2 7 (by decide)
theorem MO.a8 (h : MO w A len pl km) : w 68 = ai 12 (A 8) := h.2 8 (by decide)
theorem MO.a9 (h : MO w A len pl km) : w 69 = ai 12 (A 9) := h.2 9 (by decide)
theorem MO.a10 (h : MO w A len pl km) : w 70 = ai 6 (A 10) := h.2 10 (by decide)
theorem MO.a11 (h : MO w A len pl km) : w 71 = ai 32 (A 11) := h.2 11 (by decide)
theorem MO.a12 (h : MO w A len pl km) : w 72 = ai 32 (A 12) := h.2 12 (by decide)
theorem MO.a13 (h : MO w A len pl km) : w 73 = ai 320 (A 13) := h.2 13 (by decide)
theorem MO.a14 (h : MO w A len pl km) : w 74 = ai 3 (A 14) := h.2 14 (by decide)
theorem MO.a15 (h : MO w A len pl km) : w 75 = ai 36 (A 15) := h.2 15 (by decide)
theorem MO.a16 (h : MO w A len pl km) : w 76 = ai 2 (A 16) := h.2 16 (by decide)
theorem MO.a17 (h : MO w A len pl km) : w 77 = ai 160 (A 17) := h.2 17 (by decide)
theorem MO.a18 (h : MO w A len pl km) : w 78 = ai 8 (A 18) := h.2 18 (by decide)
theorem MO.a19 (h : MO w A len pl km) : w 79 = ai 8 (A 19) := h.2 19 (by decide)
theorem MO.a20 (h : MO w A len pl km) : w 80 = ai 256 (A 20) := h.2 20 (by decide)
theorem MO.a21 (h : MO w A len pl km) : w 81 = ai 256 (A 21) := h.2 21 (by decide)
theorem MO.a22 (h : MO w A len pl km) : w 82 = ai 3328 (A 22) := h.2 22 (by decide)
theorem MO.st (h : MO w A len pl km) (a : Nat) {B : Nat → Nat} (ha : a < 23) (hw : w1 = va_up w (60 + a) (ai (szM a) B)) : ∃ A1, MO w1 A1 len pl km ∧ A1 a = B ∧ ∀ b, ¬ b = a → A1 b = A b := by
  refine ⟨va_up A a B, ⟨?_, fun b hb => ?_⟩, va_upd_self _ _ _, fun b hb => va_upd_ne _ _ hb⟩
  · rw [hw, va_upd_ne _ _ (by omega)]; exact h.1
  · by_cases c : b = a
    · rw [hw, c, va_upd_self, va_upd_self]
    · rw [hw, va_upd_ne _ _ (by omega), va_upd_ne _ _ c]; exact h.2 b hb
theorem MO.setO {len2 pl2 km2 : Nat} (h : MO w A len pl km) (hw : w1 = va_up w 59 (ob 7 [.int (nI len2), .ref 60, .ref 61, .ref 62, .ref 63, .ref 64, .ref 65, .ref 66, .ref 67, .ref 68, .ref 69, .ref 70, .ref 71, .ref 72, .ref 73, .ref 74, .ref 75, .int (nI km2), .int (nI pl2), .ref 76, .ref 77, .ref 78, .ref 79, .ref 80, .ref 81, .ref 82])) : MO w1 A len2 pl2 km2 := by
  refine ⟨by rw [hw]; exact va_upd_self _ _ _, fun b hb => ?_⟩
  rw [hw, va_upd_ne _ _ (by omega)]; exact h.2 b hb
theorem MO.frm {c d : Nat} (h : MO w A len pl km) (hf : fr w w1 c d) (hd : d ≤ 59) : MO w1 A len pl km := ⟨(hf _ (by omega)).trans h.1, fun b hb => (hf _ (by omega)).trans (h.2 b hb)⟩
end MOS
def inB (v lo hi : Int64) : Bool := decide (lo.toInt ≤ v.toInt ∧ v.toInt ≤ hi.toInt)
theorem lg_n {a b : Int64} : lg_cmp a b < 0 ↔ a.toInt < b.toInt := by
  unfold lg_cmp
  split
  · rename_i h
    have := Int64.lt_iff_toInt_lt.mp h
    exact ⟨fun e => absurd e (by decide), fun e => by omega⟩
  · rename_i h
    have h : ¬ b.toInt < a.toInt := fun e => h (Int64.lt_iff_toInt_lt.mpr e)
    split
    · rename_i h2
      rw [h2]
      exact ⟨fun e => absurd e (by decide), fun e => by omega⟩
    · rename_i h2
      have h2 : ¬ a.toInt = b.toInt := fun e => h2 (Int64.toInt_inj.mp e)
      exact ⟨fun _ => by omega, fun _ => by decide⟩
theorem lg_p {a b : Int64} : 0 < lg_cmp a b ↔ b.toInt < a.toInt := by
  unfold lg_cmp
  split
  · rename_i h
    exact ⟨fun _ => Int64.lt_iff_toInt_lt.mp h, fun _ => by decide⟩
  · rename_i h
    have h : ¬ b.toInt < a.toInt := fun e => h (Int64.lt_iff_toInt_lt.mpr e)
    split
    · exact ⟨fun e => absurd e (by decide), fun e => absurd e h⟩
    · exact ⟨fun e => absurd e (by decide), fun e => absurd e h⟩
theorem c_inR (g : Gx) (n : Nat) (w : Wd) (v lo hi : Int64) : CT g yX7_in cX7_in 6 (some .boolean) rm_X7_in n n w [.long v, .long lo, .long hi] (Rv (.int (bz (inB v lo hi))) w) := by
  refine CT.start [some (.long v), none, some (.long lo), none, some (.long hi), none] (by decide +kernel) rfl (Nat.le_of_ble_eq_true rfl) (fun x C hnm => ?_)
  refine ww_lload0 C dX7_in_0 ?_
  refine ww_lload2 C dX7_in_1 ?_
  refine ww_lcmp C dX7_in_2 ?_
  refine ww_iflt C (tgt := 17) dX7_in_3 (by decide) (fun c3 => ?_) (fun c3 => ?_)
  · skip
    refine ww_iconst C (v := nI 0) dX7_in_17 (by decide) ?_
    exact ww_rz C dX7_in_18 rfl ⟨Nat.le_of_ble_eq_true rfl, Nat.le_of_ble_eq_true rfl⟩ (by unfold inB; rw [decide_eq_false (fun e => by have := lg_n.mp c3; omega)]; rfl) rfl
  · skip
    refine ww_lload0 C dX7_in_6 ?_
    refine ww_lload4 C dX7_in_7 ?_
    refine ww_lcmp C dX7_in_9 ?_
    refine ww_ifgt C (tgt := 17) dX7_in_10 (by decide) (fun c10 => ?_) (fun c10 => ?_)
    · skip
      refine ww_iconst C (v := nI 0) dX7_in_17 (by decide) ?_
      exact ww_rz C dX7_in_18 rfl ⟨Nat.le_of_ble_eq_true rfl, Nat.le_of_ble_eq_true rfl⟩ (by unfold inB; rw [decide_eq_false (fun e => by have := lg_p.mp c10; omega)]; rfl) rfl
    · skip
      refine ww_iconst C (v := nI 1) dX7_in_13 (by decide) ?_
      refine ww_goto C (tgt := 18) dX7_in_14 (by decide) ?_
      exact ww_rz C dX7_in_18 rfl ⟨Nat.le_of_ble_eq_true rfl, Nat.le_of_ble_eq_true rfl⟩ (by unfold inB; rw [decide_eq_true ⟨Int.not_lt.mp (fun e => c3 (lg_n.mpr e)), Int.not_lt.mp (fun e => c10 (lg_p.mpr e))⟩]; rfl) rfl
theorem in_W {x : Int32} {a b : Nat} (ha : a < 2147483648) (hb : b < 2147483648) : inB x.toInt64 (lN a) (lN b) = wb (nI a) (nI b) x := by
  unfold inB wb
  rw [Int32.toInt_toInt64, lN_toInt ha, lN_toInt hb, nI_toInt ha, nI_toInt hb]
theorem in_N {k a b : Nat} (hk : k < 2147483648) (ha : a < 2147483648) (hb : b < 2147483648) : inB (lN k) (lN a) (lN b) = decide (a ≤ k ∧ k ≤ b) := by
  unfold inB
  rw [lN_toInt hk, lN_toInt ha, lN_toInt hb]
  exact decide_eq_decide.mpr (by omega)
theorem in_P {x : Int32} {p : Nat} (hp8 : p ≤ 8) : inB x.toInt64 (lN 0) (nI p - nI 1).toInt64 = hb p x := by
  unfold inB hb
  rw [Int32.toInt_toInt64, Int32.toInt_toInt64, lN_toInt (by decide)]
  apply decide_eq_decide.mpr
  have e : (nI p - nI 1).toInt = (p : Int) - 1 := by
    rcases p with _ | q
    · decide
    · rw [pk_sub (by omega), nI_toInt (by omega)]; omega
  rw [e]
  omega
theorem has_b {s i : Nat} : (s / 2 ^ i &&& 1 = 1) ↔ tb s i = true := by
  unfold tb
  rw [Nat.and_one_is_mod, Nat.testBit_eq_decide_div_mod_eq, decide_eq_true_iff]
theorem bits_s : ∀ s, s < 256 → ¬ s = 0 → bcN (s &&& (s - 1)) + 1 = bcN s ∧ s &&& (s - 1) < s := by decide +kernel
theorem c_mhas (g : Gx) (n : Nat) (w : Wd) {s i : Nat} (hs : s < 2147483648) (hi : i ≤ 31) : CT g yX7_has cX7_has 2 (some .boolean) rm_X7_has n n w [.int (nI s), .int (nI i)] (Rv (.int (bz (tb s i))) w) := by
  refine CT.start [some (.int (nI s)), some (.int (nI i))] (by decide +kernel) rfl (Nat.le_of_ble_eq_true rfl) (fun x C hnm => ?_)
  refine ww_iload0 C dX7_has_0 ?_
  refine ww_iload1 C dX7_has_1 ?_
  refine ww_ishrN C (by omega) dX7_has_2 ?_
  refine ww_iconst C (v := nI 1) dX7_has_3 (by decide) ?_
  refine ww_iandN C dX7_has_4 ?_
  refine ww_iconst C (v := nI 1) dX7_has_5 (by decide) ?_
  refine ww_icmpneN C (⟨Nat.lt_of_le_of_lt Nat.and_le_right (by decide), by decide⟩) (tgt := 13) dX7_has_6 (by decide) (fun c6 => ?_) (fun c6 => ?_)
  · skip
    refine ww_iconst C (v := nI 0) dX7_has_13 (by decide) ?_
    exact ww_rz C dX7_has_14 rfl ⟨Nat.le_of_ble_eq_true rfl, Nat.le_of_ble_eq_true rfl⟩ (by have : tb s i = false := Bool.eq_false_iff.mpr (fun e => c6 (has_b.mpr e)); rw [this]; rfl) rfl
  · skip
    refine ww_iconst C (v := nI 1) dX7_has_9 (by decide) ?_
    refine ww_goto C (tgt := 14) dX7_has_10 (by decide) ?_
    exact ww_rz C dX7_has_14 rfl ⟨Nat.le_of_ble_eq_true rfl, Nat.le_of_ble_eq_true rfl⟩ (by rw [has_b.mp c6]; rfl) rfl
theorem c_bits (g : Gx) (n : Nat) (w : Wd) {s : Nat} (hs : s < 256) : CT g yX7_bits cX7_bits 3 (some .int) rm_X7_bits n n w [.int (nI s)] (Rv (.int (nI (bcN s))) w) := by
  refine CT.start [some (.int (nI s)), none, none] (by decide +kernel) rfl (Nat.le_of_ble_eq_true rfl) (fun x C hnm => ?_)
  refine ww_iconst C (v := nI 0) dX7_bits_0 (by decide) ?_
  refine ww_istore1 C dX7_bits_1 (by decide) rfl ?_
  refine ww_iload0 C dX7_bits_2 ?_
  refine ww_istore2 C dX7_bits_3 (by decide) rfl ?_
  have lp4 : ∀ (m : Nat) (c k : Nat), k < 256 → k < m → c + bcN k = bcN s → WW g x 3 0 0 n w 4 [some (.int (nI s)), some (.int (nI c)), some (.int (nI k))] [] := by
    intro m
    induction m with
    | zero =>
      intro c k hk hm hc
      exact absurd hm (by omega)
    | succ m ih4 =>
      intro c k hk hm hc
      refine ww_iload2 C dX7_bits_4 ?_
      refine ww_ifeqN C (by omega) (tgt := 20) dX7_bits_5 (by decide) (fun c5 => ?_) (fun c5 => ?_)
      · skip
        refine ww_iload1 C dX7_bits_20 ?_
        exact ww_ri C dX7_bits_21 rfl ⟨Nat.le_of_ble_eq_true rfl, Nat.le_of_ble_eq_true rfl⟩ (by rw [c5, show bcN 0 = 0 from rfl] at hc; rw [← hc]; rfl) rfl
      · skip
        refine ww_iincN1 C dX7_bits_8 (by decide) rfl ?_
        refine ww_iload2 C dX7_bits_11 ?_
        refine ww_iload2 C dX7_bits_12 ?_
        refine ww_iconst C (v := nI 1) dX7_bits_13 (by decide) ?_
        refine ww_isubN C (by omega) dX7_bits_14 ?_
        refine ww_iandN C dX7_bits_15 ?_
        refine ww_istore2 C dX7_bits_16 (by decide) rfl ?_
        refine ww_goto C (tgt := 4) dX7_bits_17 (by decide) ?_
        exact ih4 (c + 1) (k &&& (k - 1)) (by have := (bits_s k hk c5).2; omega) (by have := (bits_s k hk c5).2; omega) (by have := (bits_s k hk c5).1; omega)
  exact lp4 (s + 1) 0 s (by omega) (by omega) (by omega)
def btN (t : Nat → Nat) (len k : Nat) : Nat := if k < len then t k else 0
theorem c_byteAt (g : Gx) (n : Nat) (w : Wd) {A : Nat → Nat → Nat} {len pl km : Nat} (hM : MO w A len pl km) {t : Nat → Nat} (ht : ∀ j, j < len → A 0 j = t j) (hl : len ≤ 400) {k : Nat} (hk : k ≤ 1000) : CT g yX7_byteAt cX7_byteAt 2 (some .int) rm_X7_byteAt n n w [.ref 59, .int (nI k)] (Rv (.int (nI (btN t len k))) w) := by
  refine CT.start [some (.ref 59), some (.int (nI k))] (by decide +kernel) rfl (Nat.le_of_ble_eq_true rfl) (fun x C hnm => ?_)
  refine ww_iload1 C dX7_byteAt_0 ?_
  refine ww_aload0 C dX7_byteAt_1 ?_
  refine ww_getf C fl_X7_92 hM.1 rfl dX7_byteAt_2 ?_
  refine ww_icmpgeN C (by omega) (tgt := 17) dX7_byteAt_5 (by decide) (fun c5 => ?_) (fun c5 => ?_)
  · skip
    refine ww_iconst C (v := nI 0) dX7_byteAt_17 (by decide) ?_
    exact ww_ri C dX7_byteAt_18 rfl ⟨Nat.le_of_ble_eq_true rfl, Nat.le_of_ble_eq_true rfl⟩ (by unfold btN; rw [if_neg (by omega)]) rfl
  · skip
    refine ww_aload0 C dX7_byteAt_8 ?_
    refine ww_getf C fl_X7_7 hM.1 rfl dX7_byteAt_9 ?_
    refine ww_iload1 C dX7_byteAt_12 ?_
    refine ww_ialdN C hM.a0 (by omega) dX7_byteAt_13 (kk := ?_)
    refine ww_goto C (tgt := 18) dX7_byteAt_14 (by decide) ?_
    exact ww_ri C dX7_byteAt_18 rfl ⟨Nat.le_of_ble_eq_true rfl, Nat.le_of_ble_eq_true rfl⟩ (by unfold btN; rw [if_pos c5, ht k c5]) rfl
theorem m_isPerson (g : Gx) (n : Nat) (w : Wd) {A : Nat → Nat → Nat} {len pl km : Nat} (hM : MO w A len pl km) (i : Int32) {p : Nat} (hp : A 1 0 = p) (hp8 : p ≤ 8) : CT g yX7_isPerson cX7_isPerson 2 (some .boolean) rm_X7_isPerson n n w [.ref 59, .int i] (Rv (.int (bz (hb p i))) w) := by
  refine CT.start [some (.ref 59), some (.int i)] (by decide +kernel) rfl (Nat.le_of_ble_eq_true rfl) (fun x C hnm => ?_)
  refine ww_iload1 C dX7_isPerson_0 ?_
  refine ww_i2l C dX7_isPerson_1 ?_
  refine ww_lconst C (v := lN 0) dX7_isPerson_2 (by decide) ?_
  refine ww_aload0 C dX7_isPerson_3 ?_
  refine ww_getf C fl_X7_13 hM.1 rfl dX7_isPerson_4 ?_
  refine ww_iconst C (v := nI 0) dX7_isPerson_7 (by decide) ?_
  refine ww_ialdN C hM.a1 (by decide) dX7_isPerson_8 (kk := ?_)
  rw [hp]
  refine ww_iconst C (v := nI 1) dX7_isPerson_9 (by decide) ?_
  refine ww_isub C dX7_isPerson_10 ?_
  refine ww_i2l C dX7_isPerson_11 ?_
  refine ww_cS3v C (c_inR g n w _ _ _) kS_X7_88 ⟨Nat.le_of_ble_eq_true rfl, Nat.le_of_ble_eq_true rfl⟩ ⟨rfl, rfl⟩ ⟨Nat.le_of_ble_eq_true rfl, Nat.le_of_ble_eq_true rfl⟩ (Nat.le_of_ble_eq_true rfl) dX7_isPerson_12 ?_
  exact ww_rz C dX7_isPerson_15 rfl ⟨Nat.le_of_ble_eq_true rfl, Nat.le_of_ble_eq_true rfl⟩ (by rw [in_P hp8]) rfl
theorem m_isSet (g : Gx) (n : Nat) (w : Wd) {A : Nat → Nat → Nat} {len pl km : Nat} (hM : MO w A len pl km) (i : Int32) {p : Nat} (hp : A 1 0 = p) (hp8 : p ≤ 8) : CT g yX7_isSet cX7_isSet 2 (some .boolean) rm_X7_isSet n n w [.ref 59, .int i] (Rv (.int (bz (stB p i))) w) := by
  refine CT.start [some (.ref 59), some (.int i)] (by decide +kernel) rfl (Nat.le_of_ble_eq_true rfl) (fun x C hnm => ?_)
  refine ww_iload1 C dX7_isSet_0 ?_
  refine ww_i2l C dX7_isSet_1 ?_
  refine ww_lconst C (v := lN 1) dX7_isSet_2 (by decide) ?_
  refine ww_iconst C (v := nI 1) dX7_isSet_3 (by decide) ?_
  refine ww_aload0 C dX7_isSet_4 ?_
  refine ww_getf C fl_X7_13 hM.1 rfl dX7_isSet_5 ?_
  refine ww_iconst C (v := nI 0) dX7_isSet_8 (by decide) ?_
  refine ww_ialdN C hM.a1 (by decide) dX7_isSet_9 (kk := ?_)
  rw [hp]
  refine ww_shl1N C (by omega) dX7_isSet_10 ?_
  refine ww_iconst C (v := nI 1) dX7_isSet_11 (by decide) ?_
  refine ww_isubN C (Nat.two_pow_pos p) dX7_isSet_12 ?_
  refine ww_i2lN C (by have := p256 hp8; omega) dX7_isSet_13 ?_
  refine ww_cS3v C (c_inR g n w _ _ _) kS_X7_88 ⟨Nat.le_of_ble_eq_true rfl, Nat.le_of_ble_eq_true rfl⟩ ⟨rfl, rfl⟩ ⟨Nat.le_of_ble_eq_true rfl, Nat.le_of_ble_eq_true rfl⟩ (Nat.le_of_ble_eq_true rfl) dX7_isSet_14 ?_
  exact ww_rz C dX7_isSet_17 rfl ⟨Nat.le_of_ble_eq_true rfl, Nat.le_of_ble_eq_true rfl⟩ (by rw [in_W (by decide) (by have := p256 hp8; omega), wb_S hp8]) rfl
theorem m_isHill (g : Gx) (n : Nat) (w : Wd) (z y : Int32) : CT g yX7_isHill cX7_isHill 2 (some .boolean) rm_X7_isHill n n w [.int z, .int y] (Rv (.int (bz (wb (nI 0) (nI 9999) z && wb (nI 0) (nI 60) y))) w) := by
  refine CT.start [some (.int z), some (.int y)] (by decide +kernel) rfl (Nat.le_of_ble_eq_true rfl) (fun x C hnm => ?_)
  refine ww_iload0 C dX7_isHill_0 ?_
  refine ww_i2l C dX7_isHill_1 ?_
  refine ww_lconst C (v := lN 0) dX7_isHill_2 (by decide) ?_
  refine ww_ldc2 C (v := 9999) kc_X7_224 dX7_isHill_3 ?_
  refine ww_topl (show (9999 : Int64) = lN 9999 by decide) ?_
  refine ww_cS3v C (c_inR g n w _ _ _) kS_X7_88 ⟨Nat.le_of_ble_eq_true rfl, Nat.le_of_ble_eq_true rfl⟩ ⟨rfl, rfl⟩ ⟨Nat.le_of_ble_eq_true rfl, Nat.le_of_ble_eq_true rfl⟩ (Nat.le_of_ble_eq_true rfl) dX7_isHill_6 ?_
  refine ww_topi (show bz _ = bz (wb (nI 0) (nI 9999) z) by rw [in_W (by decide) (by decide)]) ?_
  refine ww_ifeqB C (tgt := 28) dX7_isHill_9 (by decide) (fun c9 => ?_) (fun c9 => ?_)
  · skip
    refine ww_iconst C (v := nI 0) dX7_isHill_28 (by decide) ?_
    exact ww_rz C dX7_isHill_29 rfl ⟨Nat.le_of_ble_eq_true rfl, Nat.le_of_ble_eq_true rfl⟩ (by rw [c9]; rfl) rfl
  · skip
    refine ww_iload1 C dX7_isHill_12 ?_
    refine ww_i2l C dX7_isHill_13 ?_
    refine ww_lconst C (v := lN 0) dX7_isHill_14 (by decide) ?_
    refine ww_ldc2 C (v := 60) kc_X7_226 dX7_isHill_15 ?_
    refine ww_topl (show (60 : Int64) = lN 60 by decide) ?_
    refine ww_cS3v C (c_inR g n w _ _ _) kS_X7_88 ⟨Nat.le_of_ble_eq_true rfl, Nat.le_of_ble_eq_true rfl⟩ ⟨rfl, rfl⟩ ⟨Nat.le_of_ble_eq_true rfl, Nat.le_of_ble_eq_true rfl⟩ (Nat.le_of_ble_eq_true rfl) dX7_isHill_18 ?_
    refine ww_topi (show bz _ = bz (wb (nI 0) (nI 60) y) by rw [in_W (by decide) (by decide)]) ?_
    refine ww_ifeqB C (tgt := 28) dX7_isHill_21 (by decide) (fun c21 => ?_) (fun c21 => ?_)
    · skip
      refine ww_iconst C (v := nI 0) dX7_isHill_28 (by decide) ?_
      exact ww_rz C dX7_isHill_29 rfl ⟨Nat.le_of_ble_eq_true rfl, Nat.le_of_ble_eq_true rfl⟩ (by rw [c9, c21]; rfl) rfl
    · skip
      refine ww_iconst C (v := nI 1) dX7_isHill_24 (by decide) ?_
      refine ww_goto C (tgt := 29) dX7_isHill_25 (by decide) ?_
      exact ww_rz C dX7_isHill_29 rfl ⟨Nat.le_of_ble_eq_true rfl, Nat.le_of_ble_eq_true rfl⟩ (by rw [c9, c21]; rfl) rfl
theorem m_wipe (g : Gx) (n : Nat) (w : Wd) {A : Nat → Nat → Nat} {len pl km : Nat} (hM : MO w A len pl km) : CT g yX7_wipe cX7_wipe 2 (some .int) rm_X7_wipe n n w [.ref 59] (Rq (.int (nI len)) (fun w1 => MO w1 A 0 pl km ∧ fr w w1 59 83)) := by
  have hf : fr w w 59 83 := fr.rf
  refine CT.start [some (.ref 59), none] (by decide +kernel) rfl (Nat.le_of_ble_eq_true rfl) (fun x C hnm => ?_)
  refine ww_aload0 C dX7_wipe_0 ?_
  refine ww_getf C fl_X7_92 hM.1 rfl dX7_wipe_1 ?_
  refine ww_istore1 C dX7_wipe_4 (by decide) rfl ?_
  refine ww_aload0 C dX7_wipe_5 ?_
  refine ww_iconst C (v := nI 0) dX7_wipe_6 (by decide) ?_
  refine ww_putI C fl_X7_92 hM.1 (Nat.le_of_ble_eq_true rfl) rfl dX7_wipe_7 (fun w1 hw1 => ?_)
  have hf : fr w w1 59 83 := hf.tr (fr.up hw1 (by omega) (by omega))
  have hM := hM.setO (len2 := 0) hw1
  refine ww_iload1 C dX7_wipe_10 ?_
  exact ww_riq C dX7_wipe_11 rfl ⟨Nat.le_of_ble_eq_true rfl, Nat.le_of_ble_eq_true rfl⟩ rfl ⟨hM, hf⟩
