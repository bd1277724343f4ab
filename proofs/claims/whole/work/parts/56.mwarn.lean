theorem tb_big {d k : Nat} (hd : d < 256) (hk : 8 ≤ k) : d.testBit k = false := Nat.testBit_lt_two_pow (Nat.lt_of_lt_of_le (show d < 2 ^ 8 from hd) (Nat.pow_le_pow_right (by decide) hk))
theorem sav_eq {p : Nat} (hp : p ≤ 8) (Pa cr : Nat → Nat) (l d : Nat) : cov (savF p Pa cr l) d = if d = 0 then 1 else if 256 ≤ d then 0 else if anyN (cbN (cov (savF p Pa cr l)) (cr d) Pa d l) p = true then 1 else 0 := (cov_eq (savF_loc hp Pa cr l) (A := cov (savF p Pa cr l)) (n := d) (fun _ _ => rfl)).symm
theorem and_bit0 : ∀ s, s < 256 → ∀ i, i < 8 → tb s i = true → s &&& (255 ^^^ 2 ^ i) = s ^^^ 2 ^ i := by decide +kernel
theorem and_dif {d s : Nat} (hd : d < 256) : d &&& (255 ^^^ s) = 0 ↔ d &&& s = d := by
  constructor
  · intro e
    apply Nat.eq_of_testBit_eq
    intro k
    rw [Nat.testBit_and]
    by_cases hk : k < 8
    · have h1 : tb (d &&& (255 ^^^ s)) k = false := by rw [e]; exact Nat.zero_testBit k
      rw [tb_dif hk] at h1
      unfold tb at h1
      revert h1
      cases d.testBit k <;> cases s.testBit k <;> decide
    · rw [tb_big hd (show 8 ≤ k by omega)]; rfl
  · intro e
    apply Nat.eq_of_testBit_eq
    intro k
    rw [Nat.zero_testBit]
    by_cases hk : k < 8
    · have h1 : (d &&& s).testBit k = d.testBit k := by rw [e]
      rw [Nat.testBit_and] at h1
      have h2 := tb_dif (a := d) (b := s) hk
      unfold tb at h2
      rw [h2]
      revert h1
      cases d.testBit k <;> cases s.testBit k <;> decide
    · rw [Nat.testBit_and, tb_big hd (show 8 ≤ k by omega)]; rfl
theorem bcN_or : ∀ s, s < 256 → ∀ i, i < 8 → tb s i = false → bcN (s ||| 2 ^ i) = bcN s + 1 := by decide +kernel
theorem cnN_sub {b c : Nat → Bool} : ∀ {n : Nat}, (∀ i, b i = true → c i = true) → cnN b n ≤ cnN c n ∧ (cnN b n = cnN c n → ∀ i, i < n → b i = c i)
  | 0, _ => ⟨Nat.le_refl _, fun _ i hi => absurd hi (Nat.not_lt_zero i)⟩
  | n + 1, h => by
    obtain ⟨h1, h2⟩ := cnN_sub (n := n) h
    cases hb : b n with
    | false =>
      cases hc : c n with
      | false =>
        rw [cnN_f hb, cnN_f hc]
        exact ⟨h1, fun e i hi => by by_cases c0 : i = n; (rw [c0, hb, hc]); (exact h2 e i (by omega))⟩
      | true =>
        rw [cnN_f hb, cnN_t hc]
        exact ⟨by omega, fun e => by omega⟩
    | true =>
      have hc := h n hb
      rw [cnN_t hb, cnN_t hc]
      exact ⟨by omega, fun e i hi => by by_cases c0 : i = n; (rw [c0, hb, hc]); (exact h2 (by omega) i (by omega))⟩
theorem sub_tb {d s : Nat} (h : d &&& s = d) (i : Nat) (hi : tb d i = true) : tb s i = true := by
  unfold tb at *
  rw [← h, Nat.testBit_and] at hi
  revert hi
  cases s.testBit i <;> simp
theorem sub_bc {d s : Nat} (h : d &&& s = d) : bcN d ≤ bcN s := (cnN_sub (sub_tb h)).1
theorem sub_eq {d s : Nat} (hs : s < 256) (h : d &&& s = d) (e : bcN d = bcN s) : d = s := by
  have hd : d < 256 := Nat.lt_of_le_of_lt (sub_le h) hs
  apply Nat.eq_of_testBit_eq
  intro k
  by_cases hk : k < 8
  · exact (cnN_sub (sub_tb h)).2 e k hk
  · rw [tb_big hd (show 8 ≤ k by omega), tb_big hs (show 8 ≤ k by omega)]
/-- a set that can be saved: from none on one can go on to all of it -/
theorem fol_sav {p : Nat} (hp : p ≤ 8) (Pa cr : Nat → Nat) (l : Nat) {s : Nat} (hs : s < 256) (hsp : s < 2 ^ p) : ∀ (m d : Nat), d ≤ m → d &&& s = d → cov (savF p Pa cr l) d = 1 → foN p Pa cr l s d = 1 → foN p Pa cr l s 0 = 1
  | 0, d, hm, h1, h2, h3 => by rw [show d = 0 by omega] at h3; exact h3
  | m + 1, d, hm, h1, h2, h3 => by
    by_cases c : d = 0
    · rw [c] at h3; exact h3
    · have hd : d < 256 := Nat.lt_of_le_of_lt (sub_le h1) hs
      rw [sav_eq hp Pa cr l d] at h2
      rw [if_neg c, if_neg (by omega)] at h2
      have h4 : anyN (cbN (cov (savF p Pa cr l)) (cr d) Pa d l) p = true := by
        apply Classical.byContradiction
        intro e
        rw [if_neg e] at h2
        cases h2
      obtain ⟨i, hi, hb⟩ := anyN_e h4
      unfold cbN at hb
      rw [Bool.and_eq_true, Bool.and_eq_true, decide_eq_true_iff, decide_eq_true_iff] at hb
      obtain ⟨b1, b2, b3⟩ := hb
      have hx := xor_bit hd (by omega) b1
      have hsub := xor_sub h1 b1
      refine fol_sav hp Pa cr l hs hsp m (d ^^^ 2 ^ i) (by omega) hsub b2 (foN_1 hp hs hsub (Or.inr (anyN_t hi ?_)))
      have e1 : (d ^^^ 2 ^ i) ||| 2 ^ i = d := by
        apply Nat.eq_of_testBit_eq
        intro k
        rw [fb_bit_set, fb_bit_flip]
        by_cases ck : k = i
        · rw [ck]
          have b1 : d.testBit i = true := b1
          rw [b1]; simp
        · simp [ck]
      have e2 : tb (d ^^^ 2 ^ i) i = false := by
        unfold tb at *
        rw [fb_bit_flip, b1]; simp
      unfold nsB
      rw [e1, e2, sub_tb h1 i b1, h3, decide_eq_true b3]; rfl
theorem bsN_1 {A : Nat → Nat} (h0 : A 0 = 1) : ∀ n, A (bsN A n) = 1
  | 0 => h0
  | n + 1 => by
    unfold bsN
    split
    · rename_i e; exact e.1
    · exact bsN_1 h0 n
/-- the order of a warning goes on to its end -/
theorem dn_go {p : Nat} (hp : p ≤ 8) {Pa cr : Nat → Nat} {l s : Nat} (hs : s < 256) (hsp : s < 2 ^ p) (h0 : foN p Pa cr l s 0 = 1) : ∀ c, c ≤ bcN s → foN p Pa cr l s (dnN p Pa cr l s c) = 1 ∧ bcN (dnN p Pa cr l s c) = c ∧ (c < bcN s → ∃ i, fstN (nsB (foN p Pa cr l s) cr Pa s (dnN p Pa cr l s c) l) p = some i ∧ dnN p Pa cr l s (c + 1) = dnN p Pa cr l s c ||| 2 ^ i)
  | c, hc => by
    have key : foN p Pa cr l s (dnN p Pa cr l s c) = 1 ∧ bcN (dnN p Pa cr l s c) = c := by
      induction c with
      | zero => exact ⟨h0, by show bcN 0 = 0; rfl⟩
      | succ c ih =>
        obtain ⟨i1, i2⟩ := ih (by omega)
        have hsub := dnN_sub p Pa cr l s c
        have hle := sub_le hsub
        have hne : ¬ dnN p Pa cr l s c = s := fun e => by rw [e] at i2; omega
        rw [foN_eq hp Pa cr l hs hle] at i1
        have h4 : anyN (nsB (foN p Pa cr l s) cr Pa s (dnN p Pa cr l s c) l) p = true := by
          apply Classical.byContradiction
          intro e
          rw [if_neg (fun q => q.2.elim hne e)] at i1
          cases i1
        obtain ⟨i, hi, hb⟩ := anyN_e h4
        obtain ⟨q, hq⟩ := fstN_some2 hi hb
        obtain ⟨q1, q2, q3⟩ := fstN_spec hq
        have e : dnN p Pa cr l s (c + 1) = dnN p Pa cr l s c ||| 2 ^ q := by
          conv => lhs; unfold dnN
          rw [hq]
        have ht := nsB_t q2
        rw [e]
        exact ⟨ht.2.2.1, by rw [bcN_or _ (by omega) q (by omega) ht.2.1, i2]⟩
    refine ⟨key.1, key.2, fun hlt => ?_⟩
    obtain ⟨i1, i2⟩ := key
    have hsub := dnN_sub p Pa cr l s c
    have hle := sub_le hsub
    have hne : ¬ dnN p Pa cr l s c = s := fun e => by rw [e] at i2; omega
    rw [foN_eq hp Pa cr l hs hle] at i1
    have h4 : anyN (nsB (foN p Pa cr l s) cr Pa s (dnN p Pa cr l s c) l) p = true := by
      apply Classical.byContradiction
      intro e
      rw [if_neg (fun q => q.2.elim hne e)] at i1
      cases i1
    obtain ⟨i, hi, hb⟩ := anyN_e h4
    obtain ⟨q, hq⟩ := fstN_some2 hi hb
    refine ⟨q, hq, ?_⟩
    conv => lhs; unfold dnN
    rw [hq]
theorem cryN_b {p : Nat} {Lo Be : Nat → Nat} {b v s : Nat} (hL : ∀ i, i < p → Lo i ≤ 20) (hB : ∀ i, i < p → Be i ≤ 360) (hp : p ≤ 8) (hb : b ≤ 12) (hb1 : 1 ≤ b) (hv : v ≤ 20) : cryN p Lo Be b v s ≤ 6500 := by
  have h := cryN_le (p := p) (Lo := fun i => if i < p then Lo i else 0) (Be := fun i => if i < p then Be i else 0) (b := b) (v := v) (s := s) (fun i => by split; (rename_i c; exact hL i c); omega) (fun i => by split; (rename_i c; exact hB i c); omega) hp hb hb1 hv
  rw [cryN_c (Lp := Lo) (Bf := Be) (fun i hi => by rw [if_pos hi]) (fun i hi => by rw [if_pos hi])] at h
  exact h
theorem m_isInTime (g : Gx) (n : Nat) (w : Wd) {A : Nat → Nat → Nat} {len pl km : Nat} (hM : MO w A len pl km) {p b v s i l : Nat} {Lo Be Pa : Nat → Nat} (hp : A 1 0 = p) (hp8 : p ≤ 8) (hb : A 10 0 = b) (hb1 : 1 ≤ b ∧ b ≤ 12) (hv : A 10 1 = v) (hv20 : v ≤ 20) (hs : s < 256) (hLo : ∀ i, i < p → A 18 i = Lo i ∧ Lo i ≤ 20) (hBe : ∀ i, i < p → A 19 i = Be i ∧ Be i ≤ 360) (hPa : A 5 i = Pa i) (hP9 : Pa i ≤ 99) (hi : i < 8) (hl : l ≤ 999) : CT g yX7_isInTime cX7_isInTime 4 (some .boolean) rm_X7_isInTime n n w [.ref 59, .int (nI s), .int (nI i), .int (nI l)] (Rv (.int (bz (decide (cryN p Lo Be b v s + Pa i ≤ l)))) w) := by
  refine CT.start [some (.ref 59), some (.int (nI s)), some (.int (nI i)), some (.int (nI l))] (by decide +kernel) rfl (Nat.le_of_ble_eq_true rfl) (fun x C hnm => ?_)
  refine ww_aload0 C dX7_isInTime_0 ?_
  refine ww_iload1 C dX7_isInTime_1 ?_
  refine ww_cV1v C hM.1 rfl (m_cryOf g n w hM hp hp8 hb hb1 hv hs hLo hBe) kV_X7_159 ⟨Nat.le_of_ble_eq_true rfl, Nat.le_of_ble_eq_true rfl⟩ ⟨rfl, rfl⟩ ⟨Nat.le_of_ble_eq_true rfl, Nat.le_of_ble_eq_true rfl⟩ (Nat.le_of_ble_eq_true rfl) dX7_isInTime_2 ?_
  refine ww_aload0 C dX7_isInTime_5 ?_
  refine ww_getf C fl_X7_25 hM.1 rfl dX7_isInTime_6 ?_
  refine ww_iload2 C dX7_isInTime_9 ?_
  refine ww_ialdN C hM.a5 (by omega) dX7_isInTime_10 (kk := ?_)
  rw [hPa]
  refine ww_iaddN C dX7_isInTime_11 ?_
  refine ww_iload3 C dX7_isInTime_12 ?_
  refine ww_icmpgtN C (by have := cryN_b (s := s) (fun i hi => (hLo i hi).2) (fun i hi => (hBe i hi).2) hp8 hb1.2 hb1.1 hv20; omega) (tgt := 20) dX7_isInTime_13 (by decide) (fun c13 => ?_) (fun c13 => ?_)
  · skip
    refine ww_iconst C (v := nI 0) dX7_isInTime_20 (by decide) ?_
    exact ww_rz C dX7_isInTime_21 rfl ⟨Nat.le_of_ble_eq_true rfl, Nat.le_of_ble_eq_true rfl⟩ (by rw [decide_eq_false (by omega)]; rfl) rfl
  · skip
    refine ww_iconst C (v := nI 1) dX7_isInTime_16 (by decide) ?_
    refine ww_goto C (tgt := 21) dX7_isInTime_17 (by decide) ?_
    exact ww_rz C dX7_isInTime_21 rfl ⟨Nat.le_of_ble_eq_true rfl, Nat.le_of_ble_eq_true rfl⟩ (by rw [decide_eq_true c13]; rfl) rfl
/-- behind sayNow: the rows that a warning and a council read -/
def Sy (B : Nat → Nat → Nat) (h : Hs) (a : Ms) : Prop := B 1 0 = h.2.2.2.1 ∧ B 10 0 = h.2.2.2.2.2.2.2.2.2.1 ∧ B 10 1 = h.2.2.2.2.2.2.2.2.2.2.1 ∧ (∀ i, i < h.2.2.2.1 → B 18 i = longN a.1 a.2.1 i ∧ longN a.1 a.2.1 i ≤ 20) ∧ (∀ i, i < h.2.2.2.1 → B 19 i = beatN a.1 a.2.1 a.2.2.1 h.2.2.2.2.2.2.2.2.1 i ∧ beatN a.1 a.2.1 a.2.2.1 h.2.2.2.2.2.2.2.2.1 i ≤ 360) ∧ (∀ i, i < h.2.2.2.1 → B 5 i = h.2.2.2.2.1 i ∧ B 6 i = h.2.2.2.2.2.1 i)
theorem Sy.eqv {B D : Nat → Nat → Nat} {h : Hs} {a : Ms} (e : ∀ b, ¬ b = 20 → ¬ b = 21 → ¬ b = 22 → D b = B b) (q : Sy B h a) : Sy D h a := by
  unfold Sy
  rw [e 1 (by decide) (by decide) (by decide), e 10 (by decide) (by decide) (by decide), e 18 (by decide) (by decide) (by decide), e 19 (by decide) (by decide) (by decide), e 5 (by decide) (by decide) (by decide), e 6 (by decide) (by decide) (by decide)]
  exact q
theorem Sy.of {B : Nat → Nat → Nat} {t : Nat → Nat} {len : Nat} {h : Hs} {a : Ms} {kn : Nat} {k1 k2 : Ms} (hR : Rl B t len h a kn k1 k2) (hB : Bd h a) (hS : Sd B h.2.2.2.1 a.1 a.2.1 a.2.2.1 h.2.2.2.2.2.2.2.2.1) : Sy B h a := by
  obtain ⟨q0, q1, q2, ⟨r1, r2, r3, r4, r5, r6⟩, q4⟩ := hR
  exact ⟨r1, r4, r5, fun i hi => ⟨(hS i hi).1, longN_le (hB.2.2.2.1 i)⟩, fun i hi => ⟨(hS i hi).2.1, beatN_le hB.2.2.2.1 hB.2.2.2.2.2.2.2.2.2.2.1 i⟩, r2⟩
theorem sav_b {p : Nat} (hp : p ≤ 8) (Pa cr : Nat → Nat) (l d : Nat) : cov (savF p Pa cr l) d = 0 ∨ cov (savF p Pa cr l) d = 1 := by
  rw [sav_eq hp Pa cr l d]
  split
  · exact Or.inr rfl
  · split
    · exact Or.inl rfl
    · split
      · exact Or.inr rfl
      · exact Or.inl rfl
theorem or01 {b : Nat → Bool} {i : Nat} : ((if anyN b i = true then 1 else 0) ||| (if b i = true then 1 else 0)) = (if anyN b (i + 1) = true then 1 else 0) := by
  show _ = (if (anyN b i || b i) = true then 1 else 0)
  cases anyN b i <;> cases b i <;> rfl
theorem bs_n {A : Nat → Nat} {n : Nat} (h : ¬ (A n = 1 ∧ bcN (bsN A n) < bcN n)) : bsN A n = bsN A (n + 1) := by
  conv => rhs; unfold bsN
  rw [if_neg h]
theorem bs_y {A : Nat → Nat} {n : Nat} (h : A n = 1 ∧ bcN (bsN A n) < bcN n) : n = bsN A (n + 1) := by
  conv => rhs; unfold bsN
  rw [if_pos h]
theorem sav_0 {p : Nat} (hp : p ≤ 8) (Pa cr : Nat → Nat) (l : Nat) : cov (savF p Pa cr l) 0 = 1 := by
  rw [sav_eq hp Pa cr l 0]
  rfl
theorem bs_1 (A : Nat → Nat) : bsN A 1 = 0 := by
  unfold bsN
  rw [if_neg (fun e => absurd e.2 (by show ¬ bcN 0 < bcN 0; omega))]
  rfl
theorem m_layWarning (g : Gx) (n : Nat) (w : Wd) {t : Nat → Nat} {len pl : Nat} {h : Hs} {a : Ms} {kn : Nat} {k1 k2 : Ms} {A : Nat → Nat → Nat} (hM : MO w A len pl kn) (hRl : Rl A t len h a kn k1 k2) (hB : Bd h a) (hBk : Bk kn k1 k2) {l : Nat} (hl : l ≤ 999) : CT g yX7_layWarning cX7_layWarning 5 (some .int) rm_X7_layWarning n n w [.ref 59, .int (nI l)] (Rq (.int (nI (B_warn h a l))) (fun w1 => ∃ D, MO w1 D len pl kn ∧ fr w w1 59 83 ∧ (∀ b, ¬ b = 17 → ¬ b = 18 → ¬ b = 19 → ¬ b = 20 → D b = A b) ∧ Sy D h a)) := by
  have hf : fr w w 59 83 := fr.rf
  obtain ⟨⟨hp1, hp8⟩, ⟨hb1, hb12, hv20, hmi9⟩, hK3, hM10, hS5, hM1, hX99, hR9, hwo5, hsh1, hbe9, hhd9, hhn12⟩ := id hB
  obtain ⟨hln, hkn2, htx, hRH, hRN, hRE, hk1r, hk2r⟩ := id hRl
  obtain ⟨rp, rX, rw_, rb, rv, rm_⟩ := id hRH
  have h256 := p256 hp8
  refine CT.start [some (.ref 59), some (.int (nI l)), none, none, none] (by decide +kernel) rfl (Nat.le_of_ble_eq_true rfl) (fun x C hnm => ?_)
  refine ww_aload0 C dX7_layWarning_0 ?_
  refine ww_cV00q C hM.1 rfl (m_sayNow g n w hM hRl hB hBk) kV_X7_145 ⟨Nat.le_of_ble_eq_true rfl, Nat.le_of_ble_eq_true rfl⟩ ⟨rfl, rfl⟩ ⟨Nat.le_of_ble_eq_true rfl, Nat.le_of_ble_eq_true rfl⟩ (Nat.le_of_ble_eq_true rfl) dX7_layWarning_1 (fun w1 hw1 => ?_)
  obtain ⟨B, hM, hf1, hB0, hRl, hSd⟩ := hw1
  have hBo : ∀ b, ¬ b = 20 → B b = B b := fun _ _ => rfl
  have hf := hf.tr hf1
  have hSy := Sy.of hRl hB hSd
  refine ww_iconst C (v := nI 0) dX7_layWarning_4 (by decide) ?_
  refine ww_istore2 C dX7_layWarning_5 (by decide) rfl ?_
  refine ww_aload0 C dX7_layWarning_6 ?_
  refine ww_getf C fl_X7_70 hM.1 rfl dX7_layWarning_7 ?_
  refine ww_iconst C (v := nI 0) dX7_layWarning_10 (by decide) ?_
  refine ww_iconst C (v := nI 1) dX7_layWarning_11 (by decide) ?_
  refine ww_iastN C hM.a20 (by decide) dX7_layWarning_12 (kk := fun w2 hw2 => ?_)
  have hf : fr w w2 59 83 := hf.tr (fr.up hw2 (by omega) (by omega))
  obtain ⟨A2, hM, e2, o2⟩ := hM.st 20 (by decide) hw2
  refine ww_iconst C (v := nI 1) dX7_layWarning_13 (by decide) ?_
  refine ww_istore3 C dX7_layWarning_14 (by decide) rfl ?_
  have lp15 : ∀ (m : Nat) (s : Nat) (D : Nat → Nat → Nat) (u : Wd) (z4 : Option Value), 1 ≤ s → s ≤ 2 ^ h.2.2.2.1 → 2 ^ h.2.2.2.1 < s + m → (∀ b, ¬ b = 20 → D b = B b) → (∀ j, j < s → D 20 j = (cov (savF h.2.2.2.1 h.2.2.2.2.1 (cryN h.2.2.2.1 (longN a.1 a.2.1) (beatN a.1 a.2.1 a.2.2.1 h.2.2.2.2.2.2.2.2.1) h.2.2.2.2.2.2.2.2.2.1 h.2.2.2.2.2.2.2.2.2.2.1) l)) j) → Sy D h a → MO u D len pl kn → fr w u 59 83 → WW g x 5 0 0 n u 15 [some (.ref 59), some (.int (nI l)), some (.int (nI (bsN (cov (savF h.2.2.2.1 h.2.2.2.2.1 (cryN h.2.2.2.1 (longN a.1 a.2.1) (beatN a.1 a.2.1 a.2.2.1 h.2.2.2.2.2.2.2.2.1) h.2.2.2.2.2.2.2.2.2.1 h.2.2.2.2.2.2.2.2.2.2.1) l)) s))), some (.int (nI s)), z4] [] := by
    intro m
    induction m with
    | zero =>
      intro s D u z4 hs1 hs0 hm hBo hpre hSy hM hf
      exact absurd hm (by omega)
    | succ m ih15 =>
      intro s D u z4 hs1 hs0 hm hBo hpre hSy hM hf
      refine ww_iload3 C dX7_layWarning_15 ?_
      refine ww_iconst C (v := nI 1) dX7_layWarning_16 (by decide) ?_
      refine ww_aload0 C dX7_layWarning_17 ?_
      refine ww_getf C fl_X7_13 hM.1 rfl dX7_layWarning_18 ?_
      refine ww_iconst C (v := nI 0) dX7_layWarning_21 (by decide) ?_
      refine ww_ialdN C hM.a1 (by decide) dX7_layWarning_22 (kk := ?_)
      rw [hSy.1]
      refine ww_shl1N C (by omega) dX7_layWarning_23 ?_
      refine ww_icmpgeN C (by omega) (tgt := 138) dX7_layWarning_24 (by decide) (fun c24 => ?_) (fun c24 => ?_)
      · skip
        have es : s = 2 ^ h.2.2.2.1 := by omega
        subst es
        refine ww_iload2 C dX7_layWarning_138 ?_
        exact ww_riq C dX7_layWarning_139 rfl ⟨Nat.le_of_ble_eq_true rfl, Nat.le_of_ble_eq_true rfl⟩ rfl ⟨D, hM, hf, fun b h1 h2 h3 h4 => (hBo b h4).trans (hB0 b h1 h2 h3), hSy⟩
      · skip
        have hs8 : s < 256 := by omega
        refine ww_aload0 C dX7_layWarning_27 ?_
        refine ww_getf C fl_X7_70 hM.1 rfl dX7_layWarning_28 ?_
        refine ww_iload3 C dX7_layWarning_31 ?_
        refine ww_iconst C (v := nI 0) dX7_layWarning_32 (by decide) ?_
        refine ww_iastN C hM.a20 (by omega) dX7_layWarning_33 (kk := fun w3 hw3 => ?_)
        have hf : fr w w3 59 83 := hf.tr (fr.up hw3 (by omega) (by omega))
        obtain ⟨A3, hM, e3, o3⟩ := hM.st 20 (by decide) hw3
        have hSy := hSy.eqv (D := A3) (fun b h1 _ _ => o3 b h1)
        refine ww_iconst C (v := nI 0) dX7_layWarning_34 (by decide) ?_
        refine ww_istore4 C dX7_layWarning_35 (by decide) rfl ?_
        have lp37 : ∀ (m : Nat) (i : Nat) (D : Nat → Nat → Nat) (u : Wd), i ≤ h.2.2.2.1 → h.2.2.2.1 < i + m → (∀ b, ¬ b = 20 → D b = B b) → (∀ j, j < s → D 20 j = (cov (savF h.2.2.2.1 h.2.2.2.2.1 (cryN h.2.2.2.1 (longN a.1 a.2.1) (beatN a.1 a.2.1 a.2.2.1 h.2.2.2.2.2.2.2.2.1) h.2.2.2.2.2.2.2.2.2.1 h.2.2.2.2.2.2.2.2.2.2.1) l)) j) → D 20 s = (if anyN (cbN (cov (savF h.2.2.2.1 h.2.2.2.2.1 (cryN h.2.2.2.1 (longN a.1 a.2.1) (beatN a.1 a.2.1 a.2.2.1 h.2.2.2.2.2.2.2.2.1) h.2.2.2.2.2.2.2.2.2.1 h.2.2.2.2.2.2.2.2.2.2.1) l)) ((cryN h.2.2.2.1 (longN a.1 a.2.1) (beatN a.1 a.2.1 a.2.2.1 h.2.2.2.2.2.2.2.2.1) h.2.2.2.2.2.2.2.2.2.1 h.2.2.2.2.2.2.2.2.2.2.1) s) h.2.2.2.2.1 s l) i = true then 1 else 0) → Sy D h a → MO u D len pl kn → fr w u 59 83 → WW g x 5 0 0 n u 37 [some (.ref 59), some (.int (nI l)), some (.int (nI (bsN (cov (savF h.2.2.2.1 h.2.2.2.2.1 (cryN h.2.2.2.1 (longN a.1 a.2.1) (beatN a.1 a.2.1 a.2.2.1 h.2.2.2.2.2.2.2.2.1) h.2.2.2.2.2.2.2.2.2.1 h.2.2.2.2.2.2.2.2.2.2.1) l)) s))), some (.int (nI s)), some (.int (nI i))] [] := by
          intro m
          induction m with
          | zero =>
            intro i D u hi0 hm hBo hpre he20 hSy hM hf
            exact absurd hm (by omega)
          | succ m ih37 =>
            intro i D u hi0 hm hBo hpre he20 hSy hM hf
            refine ww_iload4 C dX7_layWarning_37 ?_
            refine ww_aload0 C dX7_layWarning_39 ?_
            refine ww_getf C fl_X7_13 hM.1 rfl dX7_layWarning_40 ?_
            refine ww_iconst C (v := nI 0) dX7_layWarning_43 (by decide) ?_
            refine ww_ialdN C hM.a1 (by decide) dX7_layWarning_44 (kk := ?_)
            rw [hSy.1]
            refine ww_icmpgeN C (by omega) (tgt := 105) dX7_layWarning_45 (by decide) (fun c45 => ?_) (fun c45 => ?_)
            · skip
              have ei : i = h.2.2.2.1 := by omega
              rw [ei] at he20
              have hes : D 20 s = (cov (savF h.2.2.2.1 h.2.2.2.2.1 (cryN h.2.2.2.1 (longN a.1 a.2.1) (beatN a.1 a.2.1 a.2.2.1 h.2.2.2.2.2.2.2.2.1) h.2.2.2.2.2.2.2.2.2.1 h.2.2.2.2.2.2.2.2.2.2.1) l)) s := by
                rw [he20, sav_eq hp8]
                rw [if_neg (show ¬ s = 0 by omega), if_neg (show ¬ 256 ≤ s by omega)]
              refine ww_aload0 C dX7_layWarning_105 ?_
              refine ww_getf C fl_X7_70 hM.1 rfl dX7_layWarning_106 ?_
              refine ww_iload3 C dX7_layWarning_109 ?_
              have jn131 : ∀ (e : Nat), e = bsN (cov (savF h.2.2.2.1 h.2.2.2.2.1 (cryN h.2.2.2.1 (longN a.1 a.2.1) (beatN a.1 a.2.1 a.2.2.1 h.2.2.2.2.2.2.2.2.1) h.2.2.2.2.2.2.2.2.2.1 h.2.2.2.2.2.2.2.2.2.2.1) l)) (s + 1) → WW g x 5 0 0 n u 131 [some (.ref 59), some (.int (nI l)), some (.int (nI (bsN (cov (savF h.2.2.2.1 h.2.2.2.2.1 (cryN h.2.2.2.1 (longN a.1 a.2.1) (beatN a.1 a.2.1 a.2.2.1 h.2.2.2.2.2.2.2.2.1) h.2.2.2.2.2.2.2.2.2.1 h.2.2.2.2.2.2.2.2.2.2.1) l)) s))), some (.int (nI s)), some (.int (nI i))] [.int (nI e)] := by
                intro e he
                subst he
                refine ww_istore2 C dX7_layWarning_131 (by decide) rfl ?_
                refine ww_iincN3 C dX7_layWarning_132 (by decide) rfl ?_
                refine ww_goto C (tgt := 15) dX7_layWarning_135 (by decide) ?_
                exact ih15 (s + 1) D _ _ (by omega) (by omega) (by omega) hBo (fun j hj => by by_cases c : j = s; (rw [c]; exact hes); (exact hpre j (by omega))) hSy hM hf
              refine ww_ialdN C hM.a20 (by omega) dX7_layWarning_110 (kk := ?_)
              rw [hes]
              refine ww_iconst C (v := nI 1) dX7_layWarning_111 (by decide) ?_
              refine ww_icmpneN C (⟨by rcases sav_b hp8 h.2.2.2.2.1 (cryN h.2.2.2.1 (longN a.1 a.2.1) (beatN a.1 a.2.1 a.2.2.1 h.2.2.2.2.2.2.2.2.1) h.2.2.2.2.2.2.2.2.2.1 h.2.2.2.2.2.2.2.2.2.2.1) l s with e | e <;> rw [e] <;> decide, by decide⟩) (tgt := 130) dX7_layWarning_112 (by decide) (fun c112 => ?_) (fun c112 => ?_)
              · skip
                refine ww_iload2 C dX7_layWarning_130 ?_
                exact jn131 _ (bs_n (fun e => c112 e.1))
              · skip
                refine ww_iload3 C dX7_layWarning_115 ?_
                refine ww_cS1v C (c_bits g n u (s := s) hs8) kS_X7_166 ⟨Nat.le_of_ble_eq_true rfl, Nat.le_of_ble_eq_true rfl⟩ ⟨rfl, rfl⟩ ⟨Nat.le_of_ble_eq_true rfl, Nat.le_of_ble_eq_true rfl⟩ (Nat.le_of_ble_eq_true rfl) dX7_layWarning_116 ?_
                refine ww_iload2 C dX7_layWarning_119 ?_
                refine ww_cS1v C (c_bits g n u (s := bsN (cov (savF h.2.2.2.1 h.2.2.2.2.1 (cryN h.2.2.2.1 (longN a.1 a.2.1) (beatN a.1 a.2.1 a.2.2.1 h.2.2.2.2.2.2.2.2.1) h.2.2.2.2.2.2.2.2.2.1 h.2.2.2.2.2.2.2.2.2.2.1) l)) s) (by have := bsN_lt (cov (savF h.2.2.2.1 h.2.2.2.2.1 (cryN h.2.2.2.1 (longN a.1 a.2.1) (beatN a.1 a.2.1 a.2.2.1 h.2.2.2.2.2.2.2.2.1) h.2.2.2.2.2.2.2.2.2.1 h.2.2.2.2.2.2.2.2.2.2.1) l)) (n := s) (by omega); omega)) kS_X7_166 ⟨Nat.le_of_ble_eq_true rfl, Nat.le_of_ble_eq_true rfl⟩ ⟨rfl, rfl⟩ ⟨Nat.le_of_ble_eq_true rfl, Nat.le_of_ble_eq_true rfl⟩ (Nat.le_of_ble_eq_true rfl) dX7_layWarning_120 ?_
                refine ww_icmpleN C (by have := bcN_le s; have := bcN_le (bsN (cov (savF h.2.2.2.1 h.2.2.2.2.1 (cryN h.2.2.2.1 (longN a.1 a.2.1) (beatN a.1 a.2.1 a.2.2.1 h.2.2.2.2.2.2.2.2.1) h.2.2.2.2.2.2.2.2.2.1 h.2.2.2.2.2.2.2.2.2.2.1) l)) s); omega) (tgt := 130) dX7_layWarning_123 (by decide) (fun c123 => ?_) (fun c123 => ?_)
                · skip
                  refine ww_iload2 C dX7_layWarning_130 ?_
                  exact jn131 _ (bs_n (fun e => by omega))
                · skip
                  refine ww_iload3 C dX7_layWarning_126 ?_
                  refine ww_goto C (tgt := 131) dX7_layWarning_127 (by decide) ?_
                  exact jn131 _ (bs_y (And.intro c112 c123))
            · skip
              refine ww_aload0 C dX7_layWarning_48 ?_
              refine ww_getf C fl_X7_70 hM.1 rfl dX7_layWarning_49 ?_
              refine ww_iload3 C dX7_layWarning_52 ?_
              refine ww_dup2 C dX7_layWarning_53 rfl rfl ?_
              refine ww_ialdN C hM.a20 (by omega) dX7_layWarning_54 (kk := ?_)
              rw [he20]
              refine ww_iload3 C dX7_layWarning_55 ?_
              refine ww_iload4 C dX7_layWarning_56 ?_
              have jn97 : ∀ (e : Nat), e = (if (cbN (cov (savF h.2.2.2.1 h.2.2.2.2.1 (cryN h.2.2.2.1 (longN a.1 a.2.1) (beatN a.1 a.2.1 a.2.2.1 h.2.2.2.2.2.2.2.2.1) h.2.2.2.2.2.2.2.2.2.1 h.2.2.2.2.2.2.2.2.2.2.1) l)) ((cryN h.2.2.2.1 (longN a.1 a.2.1) (beatN a.1 a.2.1 a.2.2.1 h.2.2.2.2.2.2.2.2.1) h.2.2.2.2.2.2.2.2.2.1 h.2.2.2.2.2.2.2.2.2.2.1) s) h.2.2.2.2.1 s l) i = true then 1 else 0) → WW g x 5 0 0 n u 97 [some (.ref 59), some (.int (nI l)), some (.int (nI (bsN (cov (savF h.2.2.2.1 h.2.2.2.2.1 (cryN h.2.2.2.1 (longN a.1 a.2.1) (beatN a.1 a.2.1 a.2.2.1 h.2.2.2.2.2.2.2.2.1) h.2.2.2.2.2.2.2.2.2.1 h.2.2.2.2.2.2.2.2.2.2.1) l)) s))), some (.int (nI s)), some (.int (nI i))] [.int (nI e), .int (nI (if anyN (cbN (cov (savF h.2.2.2.1 h.2.2.2.2.1 (cryN h.2.2.2.1 (longN a.1 a.2.1) (beatN a.1 a.2.1 a.2.2.1 h.2.2.2.2.2.2.2.2.1) h.2.2.2.2.2.2.2.2.2.1 h.2.2.2.2.2.2.2.2.2.2.1) l)) ((cryN h.2.2.2.1 (longN a.1 a.2.1) (beatN a.1 a.2.1 a.2.2.1 h.2.2.2.2.2.2.2.2.1) h.2.2.2.2.2.2.2.2.2.1 h.2.2.2.2.2.2.2.2.2.2.1) s) h.2.2.2.2.1 s l) i = true then 1 else 0)), .int (nI s), .ref 80] := by
                intro e he
                subst he
                refine ww_iorN C dX7_layWarning_97 ?_
                rw [or01]
                refine ww_iastN C hM.a20 (by omega) dX7_layWarning_98 (kk := fun w4 hw4 => ?_)
                have hf : fr w w4 59 83 := hf.tr (fr.up hw4 (by omega) (by omega))
                obtain ⟨A4, hM, e4, o4⟩ := hM.st 20 (by decide) hw4
                refine ww_iincN4 C dX7_layWarning_99 (by decide) rfl ?_
                refine ww_goto C (tgt := 37) dX7_layWarning_102 (by decide) ?_
                exact ih37 (i + 1) A4 _ (by omega) (by omega) (fun b hb => (o4 b hb).trans (hBo b hb)) (fun j hj => (up_no e4 (by omega)).trans (hpre j hj)) (up_at e4 rfl) (hSy.eqv (fun b h1 _ _ => o4 b h1)) hM hf
              refine ww_cS2v C (c_mhas g n u (s := s) (i := i) (by omega) (by omega)) kS_X7_153 ⟨Nat.le_of_ble_eq_true rfl, Nat.le_of_ble_eq_true rfl⟩ ⟨rfl, rfl⟩ ⟨Nat.le_of_ble_eq_true rfl, Nat.le_of_ble_eq_true rfl⟩ (Nat.le_of_ble_eq_true rfl) dX7_layWarning_58 ?_
              refine ww_ifeqB C (tgt := 96) dX7_layWarning_61 (by decide) (fun c61 => ?_) (fun c61 => ?_)
              · skip
                refine ww_iconst C (v := nI 0) dX7_layWarning_96 (by decide) ?_
                exact jn97 0 (by unfold cbN; rw [c61]; rfl)
              · skip
                refine ww_aload0 C dX7_layWarning_64 ?_
                refine ww_getf C fl_X7_70 hM.1 rfl dX7_layWarning_65 ?_
                refine ww_iload3 C dX7_layWarning_68 ?_
                refine ww_iconst C (v := nI 1) dX7_layWarning_69 (by decide) ?_
                refine ww_iload4 C dX7_layWarning_70 ?_
                refine ww_shl1N C (by omega) dX7_layWarning_72 ?_
                refine ww_iconst C (v := -1) dX7_layWarning_73 (by decide) ?_
                refine ww_ixor C dX7_layWarning_74 ?_
                refine ww_iand C dX7_layWarning_75 ?_
                refine ww_topi (by rw [andn hs8, and_bit0 s hs8 i (by omega) c61]) ?_
                refine ww_ialdN C hM.a20 (x256 hs8 (by omega)) dX7_layWarning_76 (kk := ?_)
                rw [hpre _ (xor_bit hs8 (by omega) c61)]
                refine ww_iconst C (v := nI 1) dX7_layWarning_77 (by decide) ?_
                refine ww_icmpneN C (⟨by rcases sav_b hp8 h.2.2.2.2.1 (cryN h.2.2.2.1 (longN a.1 a.2.1) (beatN a.1 a.2.1 a.2.2.1 h.2.2.2.2.2.2.2.2.1) h.2.2.2.2.2.2.2.2.2.1 h.2.2.2.2.2.2.2.2.2.2.1) l (s ^^^ 2 ^ i) with e | e <;> rw [e] <;> decide, by decide⟩) (tgt := 96) dX7_layWarning_78 (by decide) (fun c78 => ?_) (fun c78 => ?_)
                · skip
                  refine ww_iconst C (v := nI 0) dX7_layWarning_96 (by decide) ?_
                  exact jn97 0 (by unfold cbN; rw [decide_eq_false c78, Bool.false_and, Bool.and_false]; rfl)
                · skip
                  refine ww_aload0 C dX7_layWarning_81 ?_
                  refine ww_iload3 C dX7_layWarning_82 ?_
                  refine ww_iload4 C dX7_layWarning_83 ?_
                  refine ww_iload1 C dX7_layWarning_85 ?_
                  refine ww_cV3v C hM.1 rfl (m_isInTime g n u hM (s := s) (i := i) (Pa := h.2.2.2.2.1) (Lo := longN a.1 a.2.1) (Be := beatN a.1 a.2.1 a.2.2.1 h.2.2.2.2.2.2.2.2.1) hSy.1 hp8 hSy.2.1 (And.intro hb1 hb12) hSy.2.2.1 hv20 (hs8) hSy.2.2.2.1 hSy.2.2.2.2.1 (hSy.2.2.2.2.2 i c45).1 (hX99 _) (by omega) hl) kV_X7_162 ⟨Nat.le_of_ble_eq_true rfl, Nat.le_of_ble_eq_true rfl⟩ ⟨rfl, rfl⟩ ⟨Nat.le_of_ble_eq_true rfl, Nat.le_of_ble_eq_true rfl⟩ (Nat.le_of_ble_eq_true rfl) dX7_layWarning_86 ?_
                  refine ww_ifeqB C (tgt := 96) dX7_layWarning_89 (by decide) (fun c89 => ?_) (fun c89 => ?_)
                  · skip
                    refine ww_iconst C (v := nI 0) dX7_layWarning_96 (by decide) ?_
                    exact jn97 0 (by unfold cbN; rw [c89, Bool.and_false, Bool.and_false]; rfl)
                  · skip
                    refine ww_iconst C (v := nI 1) dX7_layWarning_92 (by decide) ?_
                    refine ww_goto C (tgt := 97) dX7_layWarning_93 (by decide) ?_
                    exact jn97 1 (by unfold cbN; rw [c61, decide_eq_true c78, c89]; rfl)
        exact lp37 (h.2.2.2.1 + 1) 0 A3 _ (by omega) (by omega) (fun b hb => (o3 b hb).trans (hBo b hb)) (fun j hj => (up_no e3 (by omega)).trans (hpre j hj)) (up_at e3 rfl) hSy hM hf
  rw [show nI 0 = nI (bsN (cov (savF h.2.2.2.1 h.2.2.2.2.1 (cryN h.2.2.2.1 (longN a.1 a.2.1) (beatN a.1 a.2.1 a.2.2.1 h.2.2.2.2.2.2.2.2.1) h.2.2.2.2.2.2.2.2.2.1 h.2.2.2.2.2.2.2.2.2.2.1) l)) 1) by rw [bs_1]]
  exact lp15 (2 ^ h.2.2.2.1 + 1) 1 A2 _ _ (by omega) (Nat.two_pow_pos _) (by omega) (fun b hb => o2 b hb) (fun j hj => by rw [show j = 0 by omega]; exact (up_at e2 rfl).trans (sav_0 hp8 _ _ _).symm) (hSy.eqv (fun b h1 _ _ => o2 b h1)) hM hf
theorem m_warn (g : Gx) (n : Nat) (w : Wd) {t : Nat → Nat} {len : Nat} {h : Hs} {a : Ms} {kn : Nat} {k1 k2 : Ms} (hMR : MR w t len h a kn k1 k2) (hB : Bd h a) (hBk : Bk kn k1 k2) (l what : Int32) : CT g yX7_warn cX7_warn 4 (some .int) rm_X7_warn n n w [.ref 59, .int l, .int what] (Rq (.int (V_warn h a l what)) (fun w1 => MR w1 t len h a kn k1 k2 ∧ fr w w1 59 83)) := by
  obtain ⟨A, pl, hM, hRl⟩ := id hMR
  have hf : fr w w 59 83 := fr.rf
  obtain ⟨⟨hp1, hp8⟩, ⟨hb1, hb12, hv20, hmi9⟩, hK3, hM10, hS5, hM1, hX99, hR9, hwo5, hsh1, hbe9, hhd9, hhn12⟩ := id hB
  obtain ⟨hln, hkn2, htx, hRH, hRN, hRE, hk1r, hk2r⟩ := id hRl
  obtain ⟨rp, rX, rw_, rb, rv, rm_⟩ := id hRH
  refine CT.start [some (.ref 59), some (.int l), some (.int what), none] (by decide +kernel) rfl (Nat.le_of_ble_eq_true rfl) (fun x C hnm => ?_)
  refine ww_iload1 C dX7_warn_0 ?_
  refine ww_i2l C dX7_warn_1 ?_
  refine ww_lconst C (v := lN 0) dX7_warn_2 (by decide) ?_
  refine ww_ldc2 C (v := 999) kc_X7_169 dX7_warn_3 ?_
  refine ww_topl (show (999 : Int64) = lN 999 by decide) ?_
  refine ww_cS3v C (c_inR g n w _ _ _) kS_X7_88 ⟨Nat.le_of_ble_eq_true rfl, Nat.le_of_ble_eq_true rfl⟩ ⟨rfl, rfl⟩ ⟨Nat.le_of_ble_eq_true rfl, Nat.le_of_ble_eq_true rfl⟩ (Nat.le_of_ble_eq_true rfl) dX7_warn_6 ?_
  refine ww_topi (show bz _ = bz (wb (nI 0) (nI 999) l) by rw [in_W (by decide) (by decide)]) ?_
  refine ww_ifeqB C (tgt := 22) dX7_warn_9 (by decide) (fun c9 => ?_) (fun c9 => ?_)
  · skip
    refine ww_iconst C (v := -1) dX7_warn_22 (by decide) ?_
    exact ww_riq C dX7_warn_23 rfl ⟨Nat.le_of_ble_eq_true rfl, Nat.le_of_ble_eq_true rfl⟩ (by unfold V_warn; rw [if_neg (fun e => by rw [c9] at e; cases e.1)]) ⟨hMR, fr.rf⟩
  · skip
    obtain ⟨q, hq0, hqm, rfl⟩ := wb_of (by decide) (by decide) c9
    have hcq : (nI q).toNatClampNeg = q := cl_nI (by omega)
    refine ww_iload2 C dX7_warn_12 ?_
    refine ww_i2l C dX7_warn_13 ?_
    refine ww_lconst C (v := lN 0) dX7_warn_14 (by decide) ?_
    refine ww_lconst C (v := lN 1) dX7_warn_15 (by decide) ?_
    refine ww_cS3v C (c_inR g n w _ _ _) kS_X7_88 ⟨Nat.le_of_ble_eq_true rfl, Nat.le_of_ble_eq_true rfl⟩ ⟨rfl, rfl⟩ ⟨Nat.le_of_ble_eq_true rfl, Nat.le_of_ble_eq_true rfl⟩ (Nat.le_of_ble_eq_true rfl) dX7_warn_16 ?_
    refine ww_topi (show bz _ = bz (wb (nI 0) (nI 1) what) by rw [in_W (by decide) (by decide)]) ?_
    refine ww_ifneB C (tgt := 24) dX7_warn_19 (by decide) (fun c19 => ?_) (fun c19 => ?_)
    · skip
      obtain ⟨y, hy0, hy1, rfl⟩ := wb_of (by decide) (by decide) c19
      refine ww_aload0 C dX7_warn_24 ?_
      refine ww_iload1 C dX7_warn_25 ?_
      refine ww_cV1vq C hM.1 rfl (m_layWarning g n w hM hRl hB hBk (l := q) hqm) kV_X7_171 ⟨Nat.le_of_ble_eq_true rfl, Nat.le_of_ble_eq_true rfl⟩ ⟨rfl, rfl⟩ ⟨Nat.le_of_ble_eq_true rfl, Nat.le_of_ble_eq_true rfl⟩ (Nat.le_of_ble_eq_true rfl) dX7_warn_26 (fun w1 hw1 => ?_)
      obtain ⟨D, hM, hf1, hBo, hSy⟩ := hw1
      have hf := hf.tr hf1
      have hbw : B_warn h a q < 256 := Nat.lt_of_lt_of_le (bsN_lt _ (Nat.two_pow_pos _)) (p256 hp8)
      refine ww_istore3 C dX7_warn_29 (by decide) rfl ?_
      refine ww_iload2 C dX7_warn_30 ?_
      refine ww_ifneN C (by omega) (tgt := 41) dX7_warn_31 (by decide) (fun c31 => ?_) (fun c31 => ?_)
      · skip
        refine ww_iload3 C dX7_warn_41 ?_
        exact ww_riq C dX7_warn_42 rfl ⟨Nat.le_of_ble_eq_true rfl, Nat.le_of_ble_eq_true rfl⟩ (by unfold V_warn; rw [if_pos ⟨c9, c19⟩, hcq, if_neg (fun e => c31 ((nI_eq (by omega) (by decide)).mp e))]) ⟨⟨D, pl, hM, hRl.sm hB hBk (Sm.all (fun b hb => hBo b (by omega) (by omega) (by omega) (by omega)))⟩, hf⟩
      · skip
        refine ww_iload3 C dX7_warn_34 ?_
        refine ww_cS1v C (c_bits g n w1 hbw) kS_X7_166 ⟨Nat.le_of_ble_eq_true rfl, Nat.le_of_ble_eq_true rfl⟩ ⟨rfl, rfl⟩ ⟨Nat.le_of_ble_eq_true rfl, Nat.le_of_ble_eq_true rfl⟩ (Nat.le_of_ble_eq_true rfl) dX7_warn_35 ?_
        refine ww_goto C (tgt := 42) dX7_warn_38 (by decide) ?_
        exact ww_riq C dX7_warn_42 rfl ⟨Nat.le_of_ble_eq_true rfl, Nat.le_of_ble_eq_true rfl⟩ (by unfold V_warn; rw [if_pos ⟨c9, c19⟩, hcq, if_pos (by rw [c31])]) ⟨⟨D, pl, hM, hRl.sm hB hBk (Sm.all (fun b hb => hBo b (by omega) (by omega) (by omega) (by omega)))⟩, hf⟩
    · skip
      refine ww_iconst C (v := -1) dX7_warn_22 (by decide) ?_
      exact ww_riq C dX7_warn_23 rfl ⟨Nat.le_of_ble_eq_true rfl, Nat.le_of_ble_eq_true rfl⟩ (by unfold V_warn; rw [if_neg (fun e => by rw [c19] at e; cases e.2)]) ⟨hMR, fr.rf⟩
