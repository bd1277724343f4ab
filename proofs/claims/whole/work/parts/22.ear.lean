theorem Rd.fr {w w1 : Wd} {r len a b : Nat} {F : Nat → Nat} (h : Rd w r len F) (hf : fr w w1 a b) (hd : r < a ∨ b ≤ r) : Rd w1 r len F := by
  rcases h with h | h
  · exact Or.inl h
  · exact Or.inr ((hf r hd).trans h)
/-- the first c syllables of person p are F's -/
def enS (S : Nat → Nat) (p : Nat) (F : Nat → Nat) (c : Nat) : Nat → Nat := fun j => if 10 * p ≤ j ∧ j < 10 * p + c then F (j - 10 * p) else S j
theorem enS_0 (S : Nat → Nat) (p : Nat) (F : Nat → Nat) : enS S p F 0 = S := by
  funext j
  unfold enS
  rw [if_neg (by omega)]
theorem enS_s (S : Nat → Nat) (p : Nat) (F : Nat → Nat) (c : Nat) : va_up (enS S p F c) (10 * p + c) (F c) = enS S p F (c + 1) := by
  funext j
  unfold va_up enS
  by_cases h : j = 10 * p + c
  · rw [if_pos h, if_pos (by omega), h]
    congr 1
    omega
  · rw [if_neg h]
    by_cases h2 : 10 * p ≤ j ∧ j < 10 * p + c
    · rw [if_pos h2, if_pos (by omega)]
    · rw [if_neg h2, if_neg (by omega)]
theorem up_up {α : Type} (f : Nat → α) (k : Nat) (a b : α) : va_up (va_up f k a) k b = va_up f k b := by
  funext j
  unfold va_up
  split <;> rfl
theorem gM_up {M : Nat → Nat} {p c : Nat} (h : c < 10) : gM (va_up M p c) p = va_up M p (c + 1) := by
  unfold gM
  rw [va_upd_self, if_pos h, up_up]
theorem gS_up {M S : Nat → Nat} {p c s : Nat} (h : c < 10) : gS (va_up M p c) S p s = va_up S (10 * p + c) s := by
  unfold gS
  rw [va_upd_self, if_pos h]

theorem c_enter (g : Gx) (n : Nat) (w : Wd) {k r len : Nat} {K M S F : Nat → Nat} {p t sz : Nat} (hN : NR w k K M S p) (hp8 : p < 8) (ht : t ≤ 3) (hr : Rd w r len F) (hrk : r < k ∨ k + 4 ≤ r) (hsz : sz ≤ len) (hl : len ≤ 6) (hF : ∀ j, j < sz → F j ≤ 5) : CT g yX4_enter cX4_enter 6 (some .boolean) rm_X4_enter n n w [.ref k, .int (nI t), .ref r, .int (nI sz)] (Rq (.int (bz true)) (fun w1 => NR w1 k (va_up K p t) (va_up M p sz) (enS S p F sz) (p + 1) ∧ fr w w1 k (k + 4))) := by
  have hf : fr w w k (k + 4) := fr.rf
  refine CT.start [some (.ref k), some (.int (nI t)), some (.ref r), some (.int (nI sz)), none, none] (by decide +kernel) rfl (Nat.le_of_ble_eq_true rfl) (fun x C hnm => ?_)
  refine ww_aload0 C dX4_enter_0 ?_
  refine ww_getf C fl_X4_21 hN.1 rfl dX4_enter_1 ?_
  refine ww_bipush C (v := nI 8) dX4_enter_4 (by decide) ?_
  refine ww_icmpltN C (by omega) (tgt := 11) dX4_enter_6 (by decide) (fun c6 => ?_) (fun c6 => ?_)
  · skip
    refine ww_aload0 C dX4_enter_11 ?_
    refine ww_getf C fl_X4_21 hN.1 rfl dX4_enter_12 ?_
    refine ww_istore4 C dX4_enter_15 (by decide) rfl ?_
    refine ww_aload0 C dX4_enter_17 ?_
    refine ww_dup C dX4_enter_18 rfl ?_
    refine ww_getf C fl_X4_21 hN.1 rfl dX4_enter_19 ?_
    refine ww_iconst C (v := nI 1) dX4_enter_22 (by decide) ?_
    refine ww_iaddN C dX4_enter_23 ?_
    refine ww_putI C fl_X4_21 hN.1 (Nat.le_of_ble_eq_true rfl) rfl dX4_enter_24 (fun w1 hw1 => ?_)
    have hf : fr w w1 k (k + 4) := hf.tr (fr.up hw1 (by omega) (by omega))
    have hr := hr.fr (fr.up (a := k) (b := k + 4) hw1 (by omega) (by omega)) hrk
    have hN := hN.setP hw1 (by omega)
    refine ww_aload0 C dX4_enter_27 ?_
    refine ww_getf C fl_X4_9 hN.1 rfl dX4_enter_28 ?_
    refine ww_iload4 C dX4_enter_31 ?_
    refine ww_iload1 C dX4_enter_33 ?_
    refine ww_iastN C hN.2.1 (by omega) dX4_enter_34 (kk := fun w2 hw2 => ?_)
    have hf : fr w w2 k (k + 4) := hf.tr (fr.up hw2 (by omega) (by omega))
    have hr := hr.fr (fr.up (a := k) (b := k + 4) hw2 (by omega) (by omega)) hrk
    have hN := hN.setK hw2 (up_le hN.2.2.2.2.2.1 (by omega))
    refine ww_aload0 C dX4_enter_35 ?_
    refine ww_getf C fl_X4_15 hN.1 rfl dX4_enter_36 ?_
    refine ww_iload4 C dX4_enter_39 ?_
    refine ww_iconst C (v := nI 0) dX4_enter_41 (by decide) ?_
    refine ww_iastN C hN.2.2.1 (by omega) dX4_enter_42 (kk := fun w3 hw3 => ?_)
    have hf : fr w w3 k (k + 4) := hf.tr (fr.up hw3 (by omega) (by omega))
    have hr := hr.fr (fr.up (a := k) (b := k + 4) hw3 (by omega) (by omega)) hrk
    have hN := hN.setM hw3 (up_le hN.2.2.2.2.2.2.1 (by omega))
    refine ww_iconst C (v := nI 0) dX4_enter_43 (by decide) ?_
    refine ww_istore5 C dX4_enter_44 (by decide) rfl ?_
    have lp46 : ∀ (m : Nat) (c : Nat) (v : Wd), c ≤ sz → sz < c + m → NR v k (va_up K p t) (va_up M p c) (enS S p F c) (p + 1) → fr w v k (k + 4) → Rd v r len F → WW g x 6 0 0 n v 46 [some (.ref k), some (.int (nI t)), some (.ref r), some (.int (nI sz)), some (.int (nI p)), some (.int (nI c))] [] := by
      intro m
      induction m with
      | zero =>
        intro c v hc0 hm hN hf hr
        exact absurd hm (by omega)
      | succ m ih46 =>
        intro c v hc0 hm hN hf hr
        refine ww_iload5 C dX4_enter_46 ?_
        refine ww_iload3 C dX4_enter_48 ?_
        refine ww_icmpgeN C (by omega) (tgt := 100) dX4_enter_49 (by decide) (fun c49 => ?_) (fun c49 => ?_)
        · skip
          have e : sz = c := by omega
          subst e
          refine ww_iconst C (v := nI 1) dX4_enter_100 (by decide) ?_
          exact ww_rzq C dX4_enter_101 rfl ⟨Nat.le_of_ble_eq_true rfl, Nat.le_of_ble_eq_true rfl⟩ rfl ⟨hN, hf⟩
        · skip
          refine ww_iload5 C dX4_enter_52 ?_
          refine ww_aload2 C dX4_enter_54 ?_
          refine ww_rlen C hr dX4_enter_55 ?_
          refine ww_icmpgeN C (by omega) (tgt := 100) dX4_enter_56 (by decide) (fun c56 => ?_) (fun c56 => ?_)
          · skip
            omega
          · skip
            refine ww_iload5 C dX4_enter_59 ?_
            refine ww_bipush C (v := nI 10) dX4_enter_61 (by decide) ?_
            refine ww_icmpgeN C (by omega) (tgt := 100) dX4_enter_63 (by decide) (fun c63 => ?_) (fun c63 => ?_)
            · skip
              omega
            · skip
              have hFc := hF c c49
              refine ww_aload0 C dX4_enter_66 ?_
              refine ww_getf C fl_X4_18 hN.1 rfl dX4_enter_67 ?_
              refine ww_iload4 C dX4_enter_70 ?_
              refine ww_bipush C (v := nI 10) dX4_enter_72 (by decide) ?_
              refine ww_imulN C dX4_enter_74 ?_
              refine ww_iload5 C dX4_enter_75 ?_
              refine ww_iaddN C dX4_enter_77 ?_
              refine ww_aload2 C dX4_enter_78 ?_
              refine ww_iload5 C dX4_enter_79 ?_
              refine ww_raldN C hr (by omega) dX4_enter_81 (by omega) ?_
              rw [Nat.mul_comm p 10]
              refine ww_iastN C hN.2.2.2.1 (by omega) dX4_enter_82 (kk := fun w4 hw4 => ?_)
              have hf : fr w w4 k (k + 4) := hf.tr (fr.up hw4 (by omega) (by omega))
              have hr := hr.fr (fr.up (a := k) (b := k + 4) hw4 (by omega) (by omega)) hrk
              have hN := hN.setS hw4 (up_le hN.2.2.2.2.2.2.2 (by omega))
              refine ww_aload0 C dX4_enter_83 ?_
              refine ww_getf C fl_X4_15 hN.1 rfl dX4_enter_84 ?_
              refine ww_iload4 C dX4_enter_87 ?_
              refine ww_dup2 C dX4_enter_89 rfl rfl ?_
              refine ww_ialdN C hN.2.2.1 (by omega) dX4_enter_90 (kk := ?_)
              refine ww_iconst C (v := nI 1) dX4_enter_91 (by decide) ?_
              refine ww_iaddN C dX4_enter_92 ?_
              rw [va_upd_self]
              refine ww_iastN C hN.2.2.1 (by omega) dX4_enter_93 (kk := fun w5 hw5 => ?_)
              have hf : fr w w5 k (k + 4) := hf.tr (fr.up hw5 (by omega) (by omega))
              have hr := hr.fr (fr.up (a := k) (b := k + 4) hw5 (by omega) (by omega)) hrk
              have hN := hN.setM hw5 (up_le hN.2.2.2.2.2.2.1 (by omega))
              rw [up_up] at hN
              rw [enS_s] at hN
              refine ww_iincN5 C dX4_enter_94 (by decide) rfl ?_
              refine ww_goto C (tgt := 46) dX4_enter_97 (by decide) ?_
              exact ih46 (c + 1) _ (by omega) (by omega) hN hf hr
    exact lp46 (sz + 1) 0 _ (by omega) (by omega) (by rw [enS_0]; exact hN) hf hr
  · skip
    omega
def ER (w : Wd) (k : Nat) (h : Nat → Nat) (m : Nat) : Prop := w k = ob 0 [.ref (k + 1), .int (nI m)] ∧ w (k + 1) = ai 12 h ∧ m ≤ 12 ∧ ∀ j, h j ≤ 9
theorem ER.fr {w w1 : Wd} {k a b : Nat} {h : Nat → Nat} {m : Nat} (e : ER w k h m) (hf : fr w w1 a b) (hd : k + 2 ≤ a ∨ b ≤ k) : ER w1 k h m := ⟨(hf _ (by omega)).trans e.1, (hf _ (by omega)).trans e.2.1, e.2.2⟩
theorem ER.setZ {w w1 : Wd} {k : Nat} {h : Nat → Nat} {m q : Nat} (e : ER w k h m) (hw : w1 = va_up w k (ob 0 [.ref (k + 1), .int (nI q)])) (hq : q ≤ 12) : ER w1 k h q := by
  subst hw
  exact ⟨va_upd_self _ _ _, (va_upd_ne _ _ (by omega)).trans e.2.1, hq, e.2.2.2⟩
theorem ER.setH {w w1 : Wd} {k : Nat} {h h2 : Nat → Nat} {m : Nat} (e : ER w k h m) (hw : w1 = va_up w (k + 1) (ai 12 h2)) (hq : ∀ j, h2 j ≤ 9) : ER w1 k h2 m := by
  subst hw
  exact ⟨(va_upd_ne _ _ (by omega)).trans e.1, va_upd_self _ _ _, e.2.2.1, hq⟩
def prodN (f : Nat → Nat) : Nat → Nat
  | 0 => 1
  | n + 1 => prodN f n * f n
/-- how like what was heard a name is -/
def likN (h : Nat → Nat) (m : Nat) (K M S : Nat → Nat) (mi i : Nat) : Nat := if longN K M i = m then prodN (fun q => if h q = 9 then 10 else if h q = saidN M S i q then 10 - mi else mi) m else 0
theorem c_earEmpty (g : Gx) (n : Nat) (w : Wd) {k m : Nat} {h : Nat → Nat} (hE : ER w k h m) : CT g yX0_empty cX0_empty 1 none rm_X0_empty n n w [.ref k] (R0q (fun w1 => ER w1 k h 0 ∧ fr w w1 k (k + 2))) := by
  have hf : fr w w k (k + 2) := fr.rf
  have hm12 := hE.2.2.1
  refine CT.start [some (.ref k)] (by decide +kernel) rfl (Nat.le_of_ble_eq_true rfl) (fun x C hnm => ?_)
  refine ww_aload0 C dX0_empty_0 ?_
  refine ww_iconst C (v := nI 0) dX0_empty_1 (by decide) ?_
  refine ww_putI C fl_X0_15 hE.1 (Nat.le_of_ble_eq_true rfl) rfl dX0_empty_2 (fun w1 hw1 => ?_)
  have hf : fr w w1 k (k + 2) := hf.tr (fr.up hw1 (by omega) (by omega))
  have hE := hE.setZ hw1 (by omega)
  exact ww_rvq C dX0_empty_5 rfl ⟨Nat.le_of_ble_eq_true rfl, Nat.le_of_ble_eq_true rfl⟩ ⟨hE, hf⟩
theorem c_earCopy (g : Gx) (n : Nat) (w : Wd) {k j m m2 : Nat} {h h2 : Nat → Nat} (hE : ER w k h m) (hT : ER w j h2 m2) (hd : j + 2 ≤ k ∨ k + 2 ≤ j) : CT g yX0_copyFrom cX0_copyFrom 2 none rm_X0_copyFrom n n w [.ref k, .ref j] (R0q (fun w1 => ER w1 k h2 m2 ∧ fr w w1 k (k + 2))) := by
  have hf : fr w w k (k + 2) := fr.rf
  have hm12 := hE.2.2.1
  have hm2 := hT.2.2.1
  refine CT.start [some (.ref k), some (.ref j)] (by decide +kernel) rfl (Nat.le_of_ble_eq_true rfl) (fun x C hnm => ?_)
  refine ww_aload1 C dX0_copyFrom_0 ?_
  refine ww_getf C fl_X0_9 hT.1 rfl dX0_copyFrom_1 ?_
  refine ww_iconst C (v := nI 0) dX0_copyFrom_4 (by decide) ?_
  refine ww_aload0 C dX0_copyFrom_5 ?_
  refine ww_getf C fl_X0_9 hE.1 rfl dX0_copyFrom_6 ?_
  refine ww_iconst C (v := nI 0) dX0_copyFrom_9 (by decide) ?_
  refine ww_bipush C (v := nI 12) dX0_copyFrom_10 (by decide) ?_
  refine ww_copyN C ml_X0_19 hT.2.1 hE.2.1 (by decide) (Nat.le_of_ble_eq_true rfl) (Nat.le_of_ble_eq_true rfl) dX0_copyFrom_12 (fun w1 hw1 => ?_)
  have hf : fr w w1 k (k + 2) := hf.tr (fr.up hw1 (by omega) (by omega))
  have hT := hT.fr (fr.up (a := k) (b := k + 2) hw1 (by omega) (by omega)) (by omega)
  have hE := hE.setH hw1 hT.2.2.2
  refine ww_aload0 C dX0_copyFrom_15 ?_
  refine ww_aload1 C dX0_copyFrom_16 ?_
  refine ww_getf C fl_X0_15 hT.1 rfl dX0_copyFrom_17 ?_
  refine ww_putI C fl_X0_15 hE.1 (Nat.le_of_ble_eq_true rfl) rfl dX0_copyFrom_20 (fun w2 hw2 => ?_)
  have hf : fr w w2 k (k + 2) := hf.tr (fr.up hw2 (by omega) (by omega))
  have hE := hE.setZ hw2 (by omega)
  exact ww_rvq C dX0_copyFrom_23 rfl ⟨Nat.le_of_ble_eq_true rfl, Nat.le_of_ble_eq_true rfl⟩ ⟨hE, hf⟩
theorem c_take (g : Gx) (n : Nat) (w : Wd) {k m s : Nat} {h : Nat → Nat} (hE : ER w k h m) (hs : s ≤ 9) : CT g yX0_take cX0_take 2 (some .boolean) rm_X0_take n n w [.ref k, .int (nI s)] (Rq (.int (bz (decide (m < 12)))) (fun w1 => (if m < 12 then ER w1 k (va_up h m s) (m + 1) else ER w1 k h m) ∧ fr w w1 k (k + 2))) := by
  have hf : fr w w k (k + 2) := fr.rf
  have hm12 := hE.2.2.1
  refine CT.start [some (.ref k), some (.int (nI s))] (by decide +kernel) rfl (Nat.le_of_ble_eq_true rfl) (fun x C hnm => ?_)
  refine ww_aload0 C dX0_take_0 ?_
  refine ww_getf C fl_X0_15 hE.1 rfl dX0_take_1 ?_
  refine ww_bipush C (v := nI 12) dX0_take_4 (by decide) ?_
  refine ww_icmpltN C (by omega) (tgt := 11) dX0_take_6 (by decide) (fun c6 => ?_) (fun c6 => ?_)
  · skip
    refine ww_aload0 C dX0_take_11 ?_
    refine ww_getf C fl_X0_9 hE.1 rfl dX0_take_12 ?_
    refine ww_aload0 C dX0_take_15 ?_
    refine ww_getf C fl_X0_15 hE.1 rfl dX0_take_16 ?_
    refine ww_iload1 C dX0_take_19 ?_
    refine ww_iastN C hE.2.1 (by omega) dX0_take_20 (kk := fun w1 hw1 => ?_)
    have hf : fr w w1 k (k + 2) := hf.tr (fr.up hw1 (by omega) (by omega))
    have hE := hE.setH hw1 (up_le hE.2.2.2 (by omega))
    refine ww_aload0 C dX0_take_21 ?_
    refine ww_dup C dX0_take_22 rfl ?_
    refine ww_getf C fl_X0_15 hE.1 rfl dX0_take_23 ?_
    refine ww_iconst C (v := nI 1) dX0_take_26 (by decide) ?_
    refine ww_iaddN C dX0_take_27 ?_
    refine ww_putI C fl_X0_15 hE.1 (Nat.le_of_ble_eq_true rfl) rfl dX0_take_28 (fun w2 hw2 => ?_)
    have hf : fr w w2 k (k + 2) := hf.tr (fr.up hw2 (by omega) (by omega))
    have hE := hE.setZ hw2 (by omega)
    refine ww_iconst C (v := nI 1) dX0_take_31 (by decide) ?_
    exact ww_rzq C dX0_take_32 rfl ⟨Nat.le_of_ble_eq_true rfl, Nat.le_of_ble_eq_true rfl⟩ (by rw [decide_eq_true c6]; rfl) ⟨by rw [if_pos c6]; exact hE, hf⟩
  · skip
    refine ww_iconst C (v := nI 0) dX0_take_9 (by decide) ?_
    exact ww_rzq C dX0_take_10 rfl ⟨Nat.le_of_ble_eq_true rfl, Nat.le_of_ble_eq_true rfl⟩ (by rw [decide_eq_false (by omega)]; rfl) ⟨by rw [if_neg (by omega)]; exact hE, hf⟩
theorem c_likeness (g : Gx) (n : Nat) (w : Wd) {k j m0 i mi : Nat} {h K M S : Nat → Nat} {p : Nat} (hE : ER w k h m0) (hN : NR w j K M S p) (hi : i < p) (hmi : mi ≤ 9) : CT g yX0_likeness cX0_likeness 7 (some .long) rm_X0_likeness n n w [.ref k, .ref j, .int (nI i), .int (nI mi)] (Rv (.long (lN (likN h m0 K M S mi i))) w) := by
  have hm12 := hE.2.2.1
  have hp := hN.2.2.2.2.1
  have hLi := longN_le (K := K) (hN.2.2.2.2.2.2.1 i)
  refine CT.start [some (.ref k), some (.ref j), some (.int (nI i)), some (.int (nI mi)), none, none, none] (by decide +kernel) rfl (Nat.le_of_ble_eq_true rfl) (fun x C hnm => ?_)
  refine ww_aload1 C dX0_likeness_0 ?_
  refine ww_iload2 C dX0_likeness_1 ?_
  refine ww_cV1v C hN.1 rfl (c_longOf g n w hN hi) kV_X0_25 ⟨Nat.le_of_ble_eq_true rfl, Nat.le_of_ble_eq_true rfl⟩ ⟨rfl, rfl⟩ ⟨Nat.le_of_ble_eq_true rfl, Nat.le_of_ble_eq_true rfl⟩ (Nat.le_of_ble_eq_true rfl) dX0_likeness_2 ?_
  refine ww_aload0 C dX0_likeness_5 ?_
  refine ww_getf C fl_X0_15 hE.1 rfl dX0_likeness_6 ?_
  refine ww_icmpeqN C (by omega) (tgt := 14) dX0_likeness_9 (by decide) (fun c9 => ?_) (fun c9 => ?_)
  · skip
    refine ww_lconst C (v := lN 1) dX0_likeness_14 (by decide) ?_
    refine ww_lstore4 C dX0_likeness_15 (by decide) rfl ?_
    refine ww_iconst C (v := nI 0) dX0_likeness_17 (by decide) ?_
    refine ww_istore6 C dX0_likeness_18 (by decide) rfl ?_
    have lp20 : ∀ (m : Nat) (q a : Nat), q ≤ m0 → m0 < q + m → a = prodN (fun q => if h q = 9 then 10 else if h q = saidN M S i q then 10 - mi else mi) q → WW g x 7 0 0 n w 20 [some (.ref k), some (.ref j), some (.int (nI i)), some (.int (nI mi)), some (.long (lN a)), none, some (.int (nI q))] [] := by
      intro m
      induction m with
      | zero =>
        intro q a hq hm ha
        exact absurd hm (by omega)
      | succ m ih20 =>
        intro q a hq hm ha
        refine ww_iload6 C dX0_likeness_20 ?_
        refine ww_aload0 C dX0_likeness_22 ?_
        refine ww_getf C fl_X0_15 hE.1 rfl dX0_likeness_23 ?_
        refine ww_icmpgeN C (by omega) (tgt := 97) dX0_likeness_26 (by decide) (fun c26 => ?_) (fun c26 => ?_)
        · skip
          have e : m0 = q := by omega
          subst e
          refine ww_lload4 C dX0_likeness_97 ?_
          exact ww_rl C dX0_likeness_99 rfl ⟨Nat.le_of_ble_eq_true rfl, Nat.le_of_ble_eq_true rfl⟩ (by unfold likN; rw [if_pos c9, ha]) rfl
        · skip
          refine ww_iload6 C dX0_likeness_29 ?_
          refine ww_bipush C (v := nI 12) dX0_likeness_31 (by decide) ?_
          refine ww_icmpgeN C (by omega) (tgt := 97) dX0_likeness_33 (by decide) (fun c33 => ?_) (fun c33 => ?_)
          · skip
            omega
          · skip
            refine ww_aload0 C dX0_likeness_36 ?_
            refine ww_getf C fl_X0_9 hE.1 rfl dX0_likeness_37 ?_
            refine ww_iload6 C dX0_likeness_40 ?_
            refine ww_ialdN C hE.2.1 (by omega) dX0_likeness_42 (kk := ?_)
            refine ww_bipush C (v := nI 9) dX0_likeness_43 (by decide) ?_
            refine ww_icmpneN C (by have := hE.2.2.2 q; omega) (tgt := 59) dX0_likeness_45 (by decide) (fun c45 => ?_) (fun c45 => ?_)
            · skip
              refine ww_lload4 C dX0_likeness_59 ?_
              refine ww_aload0 C dX0_likeness_61 ?_
              refine ww_getf C fl_X0_9 hE.1 rfl dX0_likeness_62 ?_
              refine ww_iload6 C dX0_likeness_65 ?_
              refine ww_ialdN C hE.2.1 (by omega) dX0_likeness_67 (kk := ?_)
              refine ww_aload1 C dX0_likeness_68 ?_
              refine ww_iload2 C dX0_likeness_69 ?_
              refine ww_iload6 C dX0_likeness_70 ?_
              refine ww_cV2v C hN.1 rfl (c_saidAt g n w hN hi (by omega)) kV_X0_33 ⟨Nat.le_of_ble_eq_true rfl, Nat.le_of_ble_eq_true rfl⟩ ⟨rfl, rfl⟩ ⟨Nat.le_of_ble_eq_true rfl, Nat.le_of_ble_eq_true rfl⟩ (Nat.le_of_ble_eq_true rfl) dX0_likeness_72 ?_
              refine ww_icmpneN C (by have := hE.2.2.2 q; have := hN.2.2.2.2.2.2.2 (10 * i + if q < M i then q else q - M i); unfold saidN; omega) (tgt := 86) dX0_likeness_75 (by decide) (fun c75 => ?_) (fun c75 => ?_)
              · skip
                refine ww_iload3 C dX0_likeness_86 ?_
                refine ww_i2lN C (by omega) dX0_likeness_87 ?_
                refine ww_lmulN C dX0_likeness_88 ?_
                refine ww_lstore4 C dX0_likeness_89 (by decide) rfl ?_
                refine ww_iincN6 C dX0_likeness_91 (by decide) rfl ?_
                refine ww_goto C (tgt := 20) dX0_likeness_94 (by decide) ?_
                exact ih20 (q + 1) _ (by omega) (by omega) (by show _ = prodN _ q * (if h q = 9 then 10 else if h q = saidN M S i q then 10 - mi else mi); rw [if_neg c45, if_neg c75, ha])
              · skip
                refine ww_bipush C (v := nI 10) dX0_likeness_78 (by decide) ?_
                refine ww_iload3 C dX0_likeness_80 ?_
                refine ww_isubN C (by omega) dX0_likeness_81 ?_
                refine ww_i2lN C (by omega) dX0_likeness_82 ?_
                refine ww_goto C (tgt := 88) dX0_likeness_83 (by decide) ?_
                refine ww_lmulN C dX0_likeness_88 ?_
                refine ww_lstore4 C dX0_likeness_89 (by decide) rfl ?_
                refine ww_iincN6 C dX0_likeness_91 (by decide) rfl ?_
                refine ww_goto C (tgt := 20) dX0_likeness_94 (by decide) ?_
                exact ih20 (q + 1) _ (by omega) (by omega) (by show _ = prodN _ q * (if h q = 9 then 10 else if h q = saidN M S i q then 10 - mi else mi); rw [if_neg c45, if_pos c75, ha])
            · skip
              refine ww_lload4 C dX0_likeness_48 ?_
              refine ww_ldc2 C (v := 10) kc_X0_31 dX0_likeness_50 ?_
              refine ww_topl (show (10 : Int64) = lN 10 by decide) ?_
              refine ww_lmulN C dX0_likeness_53 ?_
              refine ww_lstore4 C dX0_likeness_54 (by decide) rfl ?_
              refine ww_goto C (tgt := 91) dX0_likeness_56 (by decide) ?_
              refine ww_iincN6 C dX0_likeness_91 (by decide) rfl ?_
              refine ww_goto C (tgt := 20) dX0_likeness_94 (by decide) ?_
              exact ih20 (q + 1) _ (by omega) (by omega) (by show _ = prodN _ q * (if h q = 9 then 10 else if h q = saidN M S i q then 10 - mi else mi); rw [if_pos c45, ha])
    exact lp20 (m0 + 1) 0 1 (by omega) (by omega) rfl
  · skip
    refine ww_lconst C (v := lN 0) dX0_likeness_12 (by decide) ?_
    exact ww_rl C dX0_likeness_13 rfl ⟨Nat.le_of_ble_eq_true rfl, Nat.le_of_ble_eq_true rfl⟩ (by unfold likN; rw [if_neg c9]) rfl
def MY (w : Wd) (k : Nat) (K M S : Nat → Nat) (p : Nat) (h : Nat → Nat) (m : Nat) : Prop := w k = ob 3 [.ref (k + 1), .ref (k + 5)] ∧ NR w (k + 1) K M S p ∧ ER w (k + 5) h m
theorem MY.frm {w w1 : Wd} {k a b : Nat} {K M S h : Nat → Nat} {p m : Nat} (e : MY w k K M S p h m) (hf : fr w w1 a b) (hd : k + 7 ≤ a ∨ b ≤ k) : MY w1 k K M S p h m := ⟨(hf _ (by omega)).trans e.1, e.2.1.fr hf (by omega), e.2.2.fr hf (by omega)⟩
theorem MY.setN {w w1 : Wd} {k : Nat} {K M S K2 M2 S2 h : Nat → Nat} {p p2 m : Nat} (e : MY w k K M S p h m) (hN : NR w1 (k + 1) K2 M2 S2 p2) (hf : fr w w1 (k + 1) (k + 1 + 4)) : MY w1 k K2 M2 S2 p2 h m := ⟨(hf _ (by omega)).trans e.1, hN, e.2.2.fr hf (by omega)⟩
theorem MY.setE {w w1 : Wd} {k : Nat} {K M S h h2 : Nat → Nat} {p m m2 : Nat} (e : MY w k K M S p h m) (hE : ER w1 (k + 5) h2 m2) (hf : fr w w1 (k + 5) (k + 5 + 2)) : MY w1 k K M S p h2 m2 := ⟨(hf _ (by omega)).trans e.1, e.2.1.fr hf (by omega), hE⟩
theorem c_memCopy (g : Gx) (n : Nat) (w : Wd) {k j m m2 p p2 : Nat} {K M S h K2 M2 S2 h2 : Nat → Nat} (hY : MY w k K M S p h m) (hT : MY w j K2 M2 S2 p2 h2 m2) (hd : j + 7 ≤ k ∨ k + 7 ≤ j) : CT g yX3_copyFrom cX3_copyFrom 2 none rm_X3_copyFrom n n w [.ref k, .ref j] (R0q (fun w1 => MY w1 k K2 M2 S2 p2 h2 m2 ∧ fr w w1 k (k + 7))) := by
  refine CT.start [some (.ref k), some (.ref j)] (by decide +kernel) rfl (Nat.le_of_ble_eq_true rfl) (fun x C hnm => ?_)
  refine ww_aload0 C dX3_copyFrom_0 ?_
  refine ww_getf C fl_X3_10 hY.1 rfl dX3_copyFrom_1 ?_
  refine ww_aload1 C dX3_copyFrom_4 ?_
  refine ww_getf C fl_X3_10 hT.1 rfl dX3_copyFrom_5 ?_
  obtain ⟨u1, hN1, hf1, hc1⟩ := c_copyFrom g n w hY.2.1 hT.2.1 (by omega)
  refine ww_cV10 C hY.2.1.1 rfl (hc1) kV_X3_23 ⟨Nat.le_of_ble_eq_true rfl, Nat.le_of_ble_eq_true rfl⟩ ⟨rfl, rfl⟩ ⟨Nat.le_of_ble_eq_true rfl, Nat.le_of_ble_eq_true rfl⟩ (Nat.le_of_ble_eq_true rfl) dX3_copyFrom_8 ?_
  have hY := hY.setN hN1 hf1
  have hT := hT.frm hf1 (by omega)
  refine ww_aload0 C dX3_copyFrom_11 ?_
  refine ww_getf C fl_X3_19 hY.1 rfl dX3_copyFrom_12 ?_
  refine ww_aload1 C dX3_copyFrom_15 ?_
  refine ww_getf C fl_X3_19 hT.1 rfl dX3_copyFrom_16 ?_
  refine ww_cV10q C hY.2.2.1 rfl (c_earCopy g n u1 hY.2.2 hT.2.2 (by omega)) kV_X3_27 ⟨Nat.le_of_ble_eq_true rfl, Nat.le_of_ble_eq_true rfl⟩ ⟨rfl, rfl⟩ ⟨Nat.le_of_ble_eq_true rfl, Nat.le_of_ble_eq_true rfl⟩ (Nat.le_of_ble_eq_true rfl) dX3_copyFrom_19 (fun w1 hw1 => ?_)
  obtain ⟨hE2, hf2⟩ := hw1
  have hY := hY.setE hE2 hf2
  exact ww_rvq C dX3_copyFrom_22 rfl ⟨Nat.le_of_ble_eq_true rfl, Nat.le_of_ble_eq_true rfl⟩ ⟨hY, (hf1.wide (by omega) (by omega)).tr (hf2.wide (by omega) (by omega))⟩
