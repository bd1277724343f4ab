/-- a hill: ten cells from k on -/
def HR (w : Wd) (k : Nat) (K M S : Nat → Nat) (p : Nat) (X R wo sh be : Nat → Nat) (b v mi : Nat) : Prop := w k = ob 2 [.ref (k + 1), .ref (k + 5), .ref (k + 6), .ref (k + 7), .ref (k + 8), .ref (k + 9), .int (nI b), .int (nI v), .int (nI mi)] ∧ NR w (k + 1) K M S p ∧ w (k + 5) = ai 8 X ∧ w (k + 6) = ai 8 R ∧ w (k + 7) = ai 6 wo ∧ w (k + 8) = az 6 sh ∧ w (k + 9) = ai 6 be ∧ (∀ i, X i ≤ 99) ∧ (∀ i, R i ≤ 9) ∧ (∀ i, wo i ≤ 5) ∧ (∀ i, sh i ≤ 1) ∧ (∀ i, be i ≤ 9) ∧ b ≤ 12 ∧ v ≤ 20 ∧ mi ≤ 9
section HILL
variable {w w1 : Wd} {k a c : Nat} {K M S : Nat → Nat} {p : Nat} {X R wo sh be : Nat → Nat} {b v mi : Nat}
theorem HR.frm (h : HR w k K M S p X R wo sh be b v mi) (hf : fr w w1 a c) (hd : k + 10 ≤ a ∨ c ≤ k) : HR w1 k K M S p X R wo sh be b v mi := by
  obtain ⟨h1, h2, h3, h4, h5, h6, h7, h8⟩ := h
  exact ⟨(hf _ (by omega)).trans h1, h2.fr hf (by omega), (hf _ (by omega)).trans h3, (hf _ (by omega)).trans h4, (hf _ (by omega)).trans h5, (hf _ (by omega)).trans h6, (hf _ (by omega)).trans h7, h8⟩
theorem HR.setN {K2 M2 S2 : Nat → Nat} {p2 : Nat} (h : HR w k K M S p X R wo sh be b v mi) (hN : NR w1 (k + 1) K2 M2 S2 p2) (hf : fr w w1 (k + 1) (k + 1 + 4)) : HR w1 k K2 M2 S2 p2 X R wo sh be b v mi := by
  obtain ⟨h1, h2, h3, h4, h5, h6, h7, h8⟩ := h
  exact ⟨(hf _ (by omega)).trans h1, hN, (hf _ (by omega)).trans h3, (hf _ (by omega)).trans h4, (hf _ (by omega)).trans h5, (hf _ (by omega)).trans h6, (hf _ (by omega)).trans h7, h8⟩
theorem HR.setO {b2 v2 mi2 : Nat} (h : HR w k K M S p X R wo sh be b v mi) (hw : w1 = va_up w k (ob 2 [.ref (k + 1), .ref (k + 5), .ref (k + 6), .ref (k + 7), .ref (k + 8), .ref (k + 9), .int (nI b2), .int (nI v2), .int (nI mi2)])) (hq : b2 ≤ 12 ∧ v2 ≤ 20 ∧ mi2 ≤ 9) : HR w1 k K M S p X R wo sh be b2 v2 mi2 := by
  obtain ⟨h1, h2, h3, h4, h5, h6, h7, h8, h9, h10, h11, h12, h13⟩ := h
  have hf : fr w w1 k (k + 1) := fr.up hw (by omega) (by omega)
  exact ⟨by rw [hw]; exact va_upd_self _ _ _, h2.fr hf (by omega), (hf _ (by omega)).trans h3, (hf _ (by omega)).trans h4, (hf _ (by omega)).trans h5, (hf _ (by omega)).trans h6, (hf _ (by omega)).trans h7, h8, h9, h10, h11, h12, hq⟩
theorem HR.setX {A2 : Nat → Nat} (h : HR w k K M S p X R wo sh be b v mi) (hw : w1 = va_up w (k + 5) (ai 8 A2)) (hq : ∀ i, A2 i ≤ 99) : HR w1 k K M S p A2 R wo sh be b v mi := by
  obtain ⟨h1, h2, h3, h4, h5, h6, h7, h8, h9, h10, h11, h12, h13⟩ := h
  have hf : fr w w1 (k + 5) (k + 6) := fr.up hw (by omega) (by omega)
  exact ⟨(hf _ (by omega)).trans h1, h2.fr hf (by omega), (by rw [hw]; exact va_upd_self _ _ _), (hf _ (by omega)).trans h4, (hf _ (by omega)).trans h5, (hf _ (by omega)).trans h6, (hf _ (by omega)).trans h7, hq, h9, h10, h11, h12, h13⟩
theorem HR.setR {A2 : Nat → Nat} (h : HR w k K M S p X R wo sh be b v mi) (hw : w1 = va_up w (k + 6) (ai 8 A2)) (hq : ∀ i, A2 i ≤ 9) : HR w1 k K M S p X A2 wo sh be b v mi := by
  obtain ⟨h1, h2, h3, h4, h5, h6, h7, h8, h9, h10, h11, h12, h13⟩ := h
  have hf : fr w w1 (k + 6) (k + 7) := fr.up hw (by omega) (by omega)
  exact ⟨(hf _ (by omega)).trans h1, h2.fr hf (by omega), (hf _ (by omega)).trans h3, (by rw [hw]; exact va_upd_self _ _ _), (hf _ (by omega)).trans h5, (hf _ (by omega)).trans h6, (hf _ (by omega)).trans h7, h8, hq, h10, h11, h12, h13⟩
theorem HR.setW {A2 : Nat → Nat} (h : HR w k K M S p X R wo sh be b v mi) (hw : w1 = va_up w (k + 7) (ai 6 A2)) (hq : ∀ i, A2 i ≤ 5) : HR w1 k K M S p X R A2 sh be b v mi := by
  obtain ⟨h1, h2, h3, h4, h5, h6, h7, h8, h9, h10, h11, h12, h13⟩ := h
  have hf : fr w w1 (k + 7) (k + 8) := fr.up hw (by omega) (by omega)
  exact ⟨(hf _ (by omega)).trans h1, h2.fr hf (by omega), (hf _ (by omega)).trans h3, (hf _ (by omega)).trans h4, (by rw [hw]; exact va_upd_self _ _ _), (hf _ (by omega)).trans h6, (hf _ (by omega)).trans h7, h8, h9, hq, h11, h12, h13⟩
theorem HR.setZ {A2 : Nat → Nat} (h : HR w k K M S p X R wo sh be b v mi) (hw : w1 = va_up w (k + 8) (az 6 A2)) (hq : ∀ i, A2 i ≤ 1) : HR w1 k K M S p X R wo A2 be b v mi := by
  obtain ⟨h1, h2, h3, h4, h5, h6, h7, h8, h9, h10, h11, h12, h13⟩ := h
  have hf : fr w w1 (k + 8) (k + 9) := fr.up hw (by omega) (by omega)
  exact ⟨(hf _ (by omega)).trans h1, h2.fr hf (by omega), (hf _ (by omega)).trans h3, (hf _ (by omega)).trans h4, (hf _ (by omega)).trans h5, (by rw [hw]; exact va_upd_self _ _ _), (hf _ (by omega)).trans h7, h8, h9, h10, hq, h12, h13⟩
theorem HR.setB {A2 : Nat → Nat} (h : HR w k K M S p X R wo sh be b v mi) (hw : w1 = va_up w (k + 9) (ai 6 A2)) (hq : ∀ i, A2 i ≤ 9) : HR w1 k K M S p X R wo sh A2 b v mi := by
  obtain ⟨h1, h2, h3, h4, h5, h6, h7, h8, h9, h10, h11, h12, h13⟩ := h
  have hf : fr w w1 (k + 9) (k + 10) := fr.up hw (by omega) (by omega)
  exact ⟨(hf _ (by omega)).trans h1, h2.fr hf (by omega), (hf _ (by omega)).trans h3, (hf _ (by omega)).trans h4, (hf _ (by omega)).trans h5, (hf _ (by omega)).trans h6, (by rw [hw]; exact va_upd_self _ _ _), h8, h9, h10, h11, hq, h13⟩
end HILL
def filN (f h : Nat → Nat) (c : Nat) : Nat → Nat := fun j => if j < c then f j else h j
theorem filN_0 (f h : Nat → Nat) : filN f h 0 = h := by funext j; unfold filN; rw [if_neg (by omega)]
theorem filN_s (f h : Nat → Nat) (c : Nat) : va_up (filN f h c) c (f c) = filN f h (c + 1) := by
  funext j
  unfold va_up filN
  by_cases e : j = c
  · rw [if_pos e, if_pos (by omega), e]
  · rw [if_neg e]
    by_cases e2 : j < c
    · rw [if_pos e2, if_pos (by omega)]
    · rw [if_neg e2, if_neg (by omega)]
theorem c_hillEmpty (g : Gx) (n : Nat) (w : Wd) {k p b v mi : Nat} {K M S X R wo sh be : Nat → Nat} (hH : HR w k K M S p X R wo sh be b v mi) : CT g yX2_empty cX2_empty 2 none rm_X2_empty n n w [.ref k] (R0q (fun w1 => HR w1 k K M S 0 X R (filN (fun d => d) wo 6) (filN (fun _ => 0) sh 6) (filN (fun _ => 1) be 6) 4 3 1 ∧ fr w w1 k (k + 10))) := by
  have hf : fr w w k (k + 10) := fr.rf
  refine CT.start [some (.ref k), none] (by decide +kernel) rfl (Nat.le_of_ble_eq_true rfl) (fun x C hnm => ?_)
  refine ww_aload0 C dX2_empty_0 ?_
  refine ww_getf C fl_X2_12 hH.1 rfl dX2_empty_1 ?_
  refine ww_iconst C (v := nI 0) dX2_empty_4 (by decide) ?_
  refine ww_putI C fl_X2_38 hH.2.1.1 (Nat.le_of_ble_eq_true rfl) rfl dX2_empty_5 (fun w1 hw1 => ?_)
  have hf : fr w w1 k (k + 10) := hf.tr (fr.up hw1 (by omega) (by omega))
  have hH := hH.setN (hH.2.1.setP hw1 (by omega)) (fr.up hw1 (by omega) (by omega))
  refine ww_iconst C (v := nI 0) dX2_empty_8 (by decide) ?_
  refine ww_istore1 C dX2_empty_9 (by decide) rfl ?_
  have lp10 : ∀ (m : Nat) (d : Nat) (u : Wd), d ≤ 6 → 6 < d + m → HR u k K M S 0 X R (filN (fun d => d) wo d) (filN (fun _ => 0) sh d) (filN (fun _ => 1) be d) b v mi → fr w u k (k + 10) → WW g x 2 0 0 n u 10 [some (.ref k), some (.int (nI d))] [] := by
    intro m
    induction m with
    | zero =>
      intro d u hd0 hm hH hf
      exact absurd hm (by omega)
    | succ m ih10 =>
      intro d u hd0 hm hH hf
      refine ww_iload1 C dX2_empty_10 ?_
      refine ww_bipush C (v := nI 6) dX2_empty_11 (by decide) ?_
      refine ww_icmpgeN C (by omega) (tgt := 43) dX2_empty_13 (by decide) (fun c13 => ?_) (fun c13 => ?_)
      · skip
        have e : d = 6 := by omega
        subst e
        refine ww_aload0 C dX2_empty_43 ?_
        refine ww_iconst C (v := nI 4) dX2_empty_44 (by decide) ?_
        refine ww_putI C fl_X2_42 hH.1 (Nat.le_of_ble_eq_true rfl) rfl dX2_empty_45 (fun w2 hw2 => ?_)
        have hf : fr w w2 k (k + 10) := hf.tr (fr.up hw2 (by omega) (by omega))
        have hbv := hH.2.2.2.2.2.2.2.2.2.2.2.2
        have hH := hH.setO hw2 (by omega)
        refine ww_aload0 C dX2_empty_48 ?_
        refine ww_iconst C (v := nI 3) dX2_empty_49 (by decide) ?_
        refine ww_putI C fl_X2_45 hH.1 (Nat.le_of_ble_eq_true rfl) rfl dX2_empty_50 (fun w3 hw3 => ?_)
        have hf : fr w w3 k (k + 10) := hf.tr (fr.up hw3 (by omega) (by omega))
        have hbv := hH.2.2.2.2.2.2.2.2.2.2.2.2
        have hH := hH.setO hw3 (by omega)
        refine ww_aload0 C dX2_empty_53 ?_
        refine ww_iconst C (v := nI 1) dX2_empty_54 (by decide) ?_
        refine ww_putI C fl_X2_48 hH.1 (Nat.le_of_ble_eq_true rfl) rfl dX2_empty_55 (fun w4 hw4 => ?_)
        have hf : fr w w4 k (k + 10) := hf.tr (fr.up hw4 (by omega) (by omega))
        have hbv := hH.2.2.2.2.2.2.2.2.2.2.2.2
        have hH := hH.setO hw4 (by omega)
        exact ww_rvq C dX2_empty_58 rfl ⟨Nat.le_of_ble_eq_true rfl, Nat.le_of_ble_eq_true rfl⟩ ⟨hH, hf⟩
      · skip
        refine ww_aload0 C dX2_empty_16 ?_
        refine ww_getf C fl_X2_25 hH.1 rfl dX2_empty_17 ?_
        refine ww_iload1 C dX2_empty_20 ?_
        refine ww_iload1 C dX2_empty_21 ?_
        refine ww_iastN C hH.2.2.2.2.1 (by omega) dX2_empty_22 (kk := fun w5 hw5 => ?_)
        have hf : fr w w5 k (k + 10) := hf.tr (fr.up hw5 (by omega) (by omega))
        have hH := hH.setW hw5 (up_le hH.2.2.2.2.2.2.2.2.2.1 (by omega))
        refine ww_aload0 C dX2_empty_23 ?_
        refine ww_getf C fl_X2_28 hH.1 rfl dX2_empty_24 ?_
        refine ww_iload1 C dX2_empty_27 ?_
        refine ww_iconst C (v := nI 0) dX2_empty_28 (by decide) ?_
        refine ww_zastN C hH.2.2.2.2.2.1 (by omega) (by omega) dX2_empty_29 (kk := fun w6 hw6 => ?_)
        have hf : fr w w6 k (k + 10) := hf.tr (fr.up hw6 (by omega) (by omega))
        have hH := hH.setZ hw6 (up_le hH.2.2.2.2.2.2.2.2.2.2.1 (by omega))
        refine ww_aload0 C dX2_empty_30 ?_
        refine ww_getf C fl_X2_32 hH.1 rfl dX2_empty_31 ?_
        refine ww_iload1 C dX2_empty_34 ?_
        refine ww_iconst C (v := nI 1) dX2_empty_35 (by decide) ?_
        refine ww_iastN C hH.2.2.2.2.2.2.1 (by omega) dX2_empty_36 (kk := fun w7 hw7 => ?_)
        have hf : fr w w7 k (k + 10) := hf.tr (fr.up hw7 (by omega) (by omega))
        have hH := hH.setB hw7 (up_le hH.2.2.2.2.2.2.2.2.2.2.2.1 (by omega))
        refine ww_iincN1 C dX2_empty_37 (by decide) rfl ?_
        refine ww_goto C (tgt := 10) dX2_empty_40 (by decide) ?_
        exact ih10 (d + 1) _ (by omega) (by omega) (by have := hH; rw [show va_up (filN (fun d => d) wo d) d d = filN (fun d => d) wo (d + 1) from filN_s (fun d => d) wo d, show va_up (filN (fun _ => 0) sh d) d 0 = filN (fun _ => 0) sh (d + 1) from filN_s (fun _ => 0) sh d, show va_up (filN (fun _ => 1) be d) d 1 = filN (fun _ => 1) be (d + 1) from filN_s (fun _ => 1) be d] at this; exact this) hf
  exact lp10 (7) 0 _ (by omega) (by omega) (by rw [filN_0, filN_0, filN_0]; exact hH) hf
theorem c_settle (g : Gx) (n : Nat) (w : Wd) {k p b v mi : Nat} {K M S X R wo sh be : Nat → Nat} (hH : HR w k K M S p X R wo sh be b v mi) {r len t sz x0 r0 : Nat} {F : Nat → Nat} (hp8 : p < 8) (ht : t ≤ 3) (hr : Rd w r len F) (hrk : r < k ∨ k + 10 ≤ r) (hsz : sz ≤ len) (hl : len ≤ 6) (hF : ∀ j, j < sz → F j ≤ 5) (hx0 : x0 ≤ 99) (hr0 : r0 ≤ 9) : CT g yX2_settle cX2_settle 7 (some .boolean) rm_X2_settle n n w [.ref k, .int (nI t), .ref r, .int (nI sz), .int (nI x0), .int (nI r0)] (Rq (.int (bz true)) (fun w1 => HR w1 k (va_up K p t) (va_up M p sz) (enS S p F sz) (p + 1) (va_up X p x0) (va_up R p r0) wo sh be b v mi ∧ fr w w1 k (k + 10))) := by
  have hf : fr w w k (k + 10) := fr.rf
  refine CT.start [some (.ref k), some (.int (nI t)), some (.ref r), some (.int (nI sz)), some (.int (nI x0)), some (.int (nI r0)), none] (by decide +kernel) rfl (Nat.le_of_ble_eq_true rfl) (fun x C hnm => ?_)
  refine ww_aload0 C dX2_settle_0 ?_
  refine ww_getf C fl_X2_12 hH.1 rfl dX2_settle_1 ?_
  refine ww_getf C fl_X2_38 hH.2.1.1 rfl dX2_settle_4 ?_
  refine ww_istore6 C dX2_settle_7 (by decide) rfl ?_
  refine ww_iload6 C dX2_settle_9 ?_
  refine ww_iconst C (v := nI 0) dX2_settle_11 (by decide) ?_
  refine ww_bipush C (v := nI 7) dX2_settle_12 (by decide) ?_
  refine ww_cSN3v C (c_within g n w _ _ _) kSN_X2_51 ⟨Nat.le_of_ble_eq_true rfl, Nat.le_of_ble_eq_true rfl⟩ ⟨rfl, rfl⟩ ⟨Nat.le_of_ble_eq_true rfl, Nat.le_of_ble_eq_true rfl⟩ (Nat.le_of_ble_eq_true rfl) dX2_settle_14 ?_
  refine ww_topi (show bz (wb (nI 0) (nI 7) (nI p)) = bz true by rw [wb_N (by decide) (by decide) (by omega), decide_eq_true (by omega)]) ?_
  refine ww_ifeqB C (tgt := 33) dX2_settle_17 (by decide) (fun c17 => ?_) (fun c17 => ?_)
  · skip
    cases c17
  · skip
    refine ww_aload0 C dX2_settle_20 ?_
    refine ww_getf C fl_X2_12 hH.1 rfl dX2_settle_21 ?_
    refine ww_iload1 C dX2_settle_24 ?_
    refine ww_aload2 C dX2_settle_25 ?_
    refine ww_iload3 C dX2_settle_26 ?_
    refine ww_cV3vq C hH.2.1.1 rfl (c_enter g n w hH.2.1 hp8 ht hr (by omega) hsz hl hF) kV_X2_55 ⟨Nat.le_of_ble_eq_true rfl, Nat.le_of_ble_eq_true rfl⟩ ⟨rfl, rfl⟩ ⟨Nat.le_of_ble_eq_true rfl, Nat.le_of_ble_eq_true rfl⟩ (Nat.le_of_ble_eq_true rfl) dX2_settle_27 (fun w1 hw1 => ?_)
    obtain ⟨hN1, hf1⟩ := hw1
    have hH := hH.setN hN1 hf1
    have hf : fr w w1 k (k + 10) := hf.tr (hf1.wide (by omega) (by omega))
    refine ww_ifneB C (tgt := 35) dX2_settle_30 (by decide) (fun c30 => ?_) (fun c30 => ?_)
    · skip
      refine ww_aload0 C dX2_settle_35 ?_
      refine ww_getf C fl_X2_18 hH.1 rfl dX2_settle_36 ?_
      refine ww_iload6 C dX2_settle_39 ?_
      refine ww_iload4 C dX2_settle_41 ?_
      refine ww_iastN C hH.2.2.1 (by omega) dX2_settle_43 (kk := fun w2 hw2 => ?_)
      have hf : fr w w2 k (k + 10) := hf.tr (fr.up hw2 (by omega) (by omega))
      have hH := hH.setX hw2 (up_le hH.2.2.2.2.2.2.2.1 (by omega))
      refine ww_aload0 C dX2_settle_44 ?_
      refine ww_getf C fl_X2_22 hH.1 rfl dX2_settle_45 ?_
      refine ww_iload6 C dX2_settle_48 ?_
      refine ww_iload5 C dX2_settle_50 ?_
      refine ww_iastN C hH.2.2.2.1 (by omega) dX2_settle_52 (kk := fun w3 hw3 => ?_)
      have hf : fr w w3 k (k + 10) := hf.tr (fr.up hw3 (by omega) (by omega))
      have hH := hH.setR hw3 (up_le hH.2.2.2.2.2.2.2.2.1 (by omega))
      refine ww_iconst C (v := nI 1) dX2_settle_53 (by decide) ?_
      exact ww_rzq C dX2_settle_54 rfl ⟨Nat.le_of_ble_eq_true rfl, Nat.le_of_ble_eq_true rfl⟩ rfl ⟨hH, hf⟩
    · skip
      cases c30
theorem c_settleF (g : Gx) (n : Nat) (w : Wd) {k p b v mi : Nat} {K M S X R wo sh be : Nat → Nat} (hH : HR w k K M S p X R wo sh be b v mi) {r : Nat} {t sz x0 r0 : Int32} (hp8 : ¬ p < 8) : CT g yX2_settle cX2_settle 7 (some .boolean) rm_X2_settle n n w [.ref k, .int t, .ref r, .int sz, .int x0, .int r0] (Rv (.int (bz false)) w) := by
  have hp := hH.2.1.2.2.2.2.1
  refine CT.start [some (.ref k), some (.int t), some (.ref r), some (.int sz), some (.int x0), some (.int r0), none] (by decide +kernel) rfl (Nat.le_of_ble_eq_true rfl) (fun x C hnm => ?_)
  refine ww_aload0 C dX2_settle_0 ?_
  refine ww_getf C fl_X2_12 hH.1 rfl dX2_settle_1 ?_
  refine ww_getf C fl_X2_38 hH.2.1.1 rfl dX2_settle_4 ?_
  refine ww_istore6 C dX2_settle_7 (by decide) rfl ?_
  refine ww_iload6 C dX2_settle_9 ?_
  refine ww_iconst C (v := nI 0) dX2_settle_11 (by decide) ?_
  refine ww_bipush C (v := nI 7) dX2_settle_12 (by decide) ?_
  refine ww_cSN3v C (c_within g n w _ _ _) kSN_X2_51 ⟨Nat.le_of_ble_eq_true rfl, Nat.le_of_ble_eq_true rfl⟩ ⟨rfl, rfl⟩ ⟨Nat.le_of_ble_eq_true rfl, Nat.le_of_ble_eq_true rfl⟩ (Nat.le_of_ble_eq_true rfl) dX2_settle_14 ?_
  refine ww_topi (show bz (wb (nI 0) (nI 7) (nI p)) = bz false by rw [wb_N (by decide) (by decide) (by omega), decide_eq_false (by omega)]) ?_
  refine ww_ifeqB C (tgt := 33) dX2_settle_17 (by decide) (fun c17 => ?_) (fun c17 => ?_)
  · skip
    refine ww_iconst C (v := nI 0) dX2_settle_33 (by decide) ?_
    exact ww_rz C dX2_settle_34 rfl ⟨Nat.le_of_ble_eq_true rfl, Nat.le_of_ble_eq_true rfl⟩ rfl rfl
  · skip
    cases c17
theorem c_pacesOf (g : Gx) (n : Nat) (w : Wd) {k p b v mi : Nat} {K M S X R wo sh be : Nat → Nat} (hH : HR w k K M S p X R wo sh be b v mi) {i : Nat} (hi : i < p) : CT g yX2_pacesOf cX2_pacesOf 2 (some .int) rm_X2_pacesOf n n w [.ref k, .int (nI i)] (Rv (.int (nI (X i))) w) := by
  have hp := hH.2.1.2.2.2.2.1
  refine CT.start [some (.ref k), some (.int (nI i))] (by decide +kernel) rfl (Nat.le_of_ble_eq_true rfl) (fun x C hnm => ?_)
  refine ww_aload0 C dX2_pacesOf_0 ?_
  refine ww_getf C fl_X2_12 hH.1 rfl dX2_pacesOf_1 ?_
  refine ww_iload1 C dX2_pacesOf_4 ?_
  refine ww_cV1v C hH.2.1.1 rfl (c_has g n w hH.2.1 (nI i)) kV_X2_59 ⟨Nat.le_of_ble_eq_true rfl, Nat.le_of_ble_eq_true rfl⟩ ⟨rfl, rfl⟩ ⟨Nat.le_of_ble_eq_true rfl, Nat.le_of_ble_eq_true rfl⟩ (Nat.le_of_ble_eq_true rfl) dX2_pacesOf_5 ?_
  refine ww_topi (show bz (hb p (nI i)) = bz true by rw [hb_N hi (by omega)]) ?_
  refine ww_ifeqB C (tgt := 20) dX2_pacesOf_8 (by decide) (fun c8 => ?_) (fun c8 => ?_)
  · skip
    cases c8
  · skip
    refine ww_aload0 C dX2_pacesOf_11 ?_
    refine ww_getf C fl_X2_18 hH.1 rfl dX2_pacesOf_12 ?_
    refine ww_iload1 C dX2_pacesOf_15 ?_
    refine ww_ialdN C hH.2.2.1 (by omega) dX2_pacesOf_16 (kk := ?_)
    refine ww_goto C (tgt := 21) dX2_pacesOf_17 (by decide) ?_
    exact ww_ri C dX2_pacesOf_21 rfl ⟨Nat.le_of_ble_eq_true rfl, Nat.le_of_ble_eq_true rfl⟩ rfl rfl
theorem c_rankOf (g : Gx) (n : Nat) (w : Wd) {k p b v mi : Nat} {K M S X R wo sh be : Nat → Nat} (hH : HR w k K M S p X R wo sh be b v mi) {i : Nat} (hi : i < p) : CT g yX2_rankOf cX2_rankOf 2 (some .int) rm_X2_rankOf n n w [.ref k, .int (nI i)] (Rv (.int (nI (R i))) w) := by
  have hp := hH.2.1.2.2.2.2.1
  refine CT.start [some (.ref k), some (.int (nI i))] (by decide +kernel) rfl (Nat.le_of_ble_eq_true rfl) (fun x C hnm => ?_)
  refine ww_aload0 C dX2_rankOf_0 ?_
  refine ww_getf C fl_X2_12 hH.1 rfl dX2_rankOf_1 ?_
  refine ww_iload1 C dX2_rankOf_4 ?_
  refine ww_cV1v C hH.2.1.1 rfl (c_has g n w hH.2.1 (nI i)) kV_X2_59 ⟨Nat.le_of_ble_eq_true rfl, Nat.le_of_ble_eq_true rfl⟩ ⟨rfl, rfl⟩ ⟨Nat.le_of_ble_eq_true rfl, Nat.le_of_ble_eq_true rfl⟩ (Nat.le_of_ble_eq_true rfl) dX2_rankOf_5 ?_
  refine ww_topi (show bz (hb p (nI i)) = bz true by rw [hb_N hi (by omega)]) ?_
  refine ww_ifeqB C (tgt := 20) dX2_rankOf_8 (by decide) (fun c8 => ?_) (fun c8 => ?_)
  · skip
    cases c8
  · skip
    refine ww_aload0 C dX2_rankOf_11 ?_
    refine ww_getf C fl_X2_22 hH.1 rfl dX2_rankOf_12 ?_
    refine ww_iload1 C dX2_rankOf_15 ?_
    refine ww_ialdN C hH.2.2.2.1 (by omega) dX2_rankOf_16 (kk := ?_)
    refine ww_goto C (tgt := 21) dX2_rankOf_17 (by decide) ?_
    exact ww_ri C dX2_rankOf_21 rfl ⟨Nat.le_of_ble_eq_true rfl, Nat.le_of_ble_eq_true rfl⟩ rfl rfl
def sumN (f : Nat → Nat) : Nat → Nat
  | 0 => 0
  | n + 1 => sumN f n + f n
theorem sumN_le {f : Nat → Nat} {b : Nat} (h : ∀ i, f i ≤ b) : ∀ n, sumN f n ≤ n * b
  | 0 => Nat.zero_le _
  | n + 1 => by
    have := sumN_le h n
    have := h n
    have e : (n + 1) * b = n * b + b := Nat.succ_mul n b
    show sumN f n + f n ≤ _
    omega
def beatN (K M S be : Nat → Nat) (i : Nat) : Nat := if K i = 3 then 2 * sumN (fun q => be (saidN M S i q)) (longN K M i) else sumN (fun q => be (saidN M S i q)) (longN K M i)
theorem saidN_le {M S : Nat → Nat} (h : ∀ i, S i ≤ 5) (i k : Nat) : saidN M S i k ≤ 5 := h _
theorem beatN_le {K M S be : Nat → Nat} (hM : ∀ i, M i ≤ 10) (hb : ∀ i, be i ≤ 9) (i : Nat) : beatN K M S be i ≤ 360 := by
  have h1 := longN_le (K := K) (hM i)
  have h2 := sumN_le (f := fun q => be (saidN M S i q)) (b := 9) (fun q => hb _) (longN K M i)
  unfold beatN
  split <;> omega
theorem c_beatsOf (g : Gx) (n : Nat) (w : Wd) {k p b v mi : Nat} {K M S X R wo sh be : Nat → Nat} (hH : HR w k K M S p X R wo sh be b v mi) {j i p2 : Nat} {K2 M2 S2 : Nat → Nat} (hN : NR w j K2 M2 S2 p2) (hi : i < p2) : CT g yX2_beatsOf cX2_beatsOf 7 (some .int) rm_X2_beatsOf n n w [.ref k, .ref j, .int (nI i)] (Rv (.int (nI (beatN K2 M2 S2 be i))) w) := by
  have hp := hN.2.2.2.2.1
  have hLi := longN_le (K := K2) (hN.2.2.2.2.2.2.1 i)
  refine CT.start [some (.ref k), some (.ref j), some (.int (nI i)), none, none, none, none] (by decide +kernel) rfl (Nat.le_of_ble_eq_true rfl) (fun x C hnm => ?_)
  refine ww_iconst C (v := nI 0) dX2_beatsOf_0 (by decide) ?_
  refine ww_istore3 C dX2_beatsOf_1 (by decide) rfl ?_
  refine ww_aload1 C dX2_beatsOf_2 ?_
  refine ww_iload2 C dX2_beatsOf_3 ?_
  refine ww_cV1v C hN.1 rfl (c_longOf g n w hN hi) kV_X2_63 ⟨Nat.le_of_ble_eq_true rfl, Nat.le_of_ble_eq_true rfl⟩ ⟨rfl, rfl⟩ ⟨Nat.le_of_ble_eq_true rfl, Nat.le_of_ble_eq_true rfl⟩ (Nat.le_of_ble_eq_true rfl) dX2_beatsOf_4 ?_
  refine ww_istore4 C dX2_beatsOf_7 (by decide) rfl ?_
  refine ww_iconst C (v := nI 0) dX2_beatsOf_9 (by decide) ?_
  refine ww_istore5 C dX2_beatsOf_10 (by decide) rfl ?_
  have lp12 : ∀ (m : Nat) (q : Nat) (z : Option Value), q ≤ longN K2 M2 i → longN K2 M2 i < q + m → WW g x 7 0 0 n w 12 [some (.ref k), some (.ref j), some (.int (nI i)), some (.int (nI (sumN (fun q => be (saidN M2 S2 i q)) q))), some (.int (nI (longN K2 M2 i))), some (.int (nI q)), z] [] := by
    intro m
    induction m with
    | zero =>
      intro q z hq hm
      exact absurd hm (by omega)
    | succ m ih12 =>
      intro q z hq hm
      refine ww_iload5 C dX2_beatsOf_12 ?_
      refine ww_iload4 C dX2_beatsOf_14 ?_
      refine ww_icmpgeN C (by omega) (tgt := 58) dX2_beatsOf_16 (by decide) (fun c16 => ?_) (fun c16 => ?_)
      · skip
        have e : q = longN K2 M2 i := by omega
        subst e
        refine ww_aload1 C dX2_beatsOf_58 ?_
        refine ww_iload2 C dX2_beatsOf_59 ?_
        refine ww_cV1v C hN.1 rfl (c_kindOf g n w hN hi) kV_X2_71 ⟨Nat.le_of_ble_eq_true rfl, Nat.le_of_ble_eq_true rfl⟩ ⟨rfl, rfl⟩ ⟨Nat.le_of_ble_eq_true rfl, Nat.le_of_ble_eq_true rfl⟩ (Nat.le_of_ble_eq_true rfl) dX2_beatsOf_60 ?_
        refine ww_iconst C (v := nI 3) dX2_beatsOf_63 (by decide) ?_
        refine ww_icmpneN C (by have := hN.2.2.2.2.2.1 i; omega) (tgt := 73) dX2_beatsOf_64 (by decide) (fun c64 => ?_) (fun c64 => ?_)
        · skip
          refine ww_iload3 C dX2_beatsOf_73 ?_
          exact ww_ri C dX2_beatsOf_74 rfl ⟨Nat.le_of_ble_eq_true rfl, Nat.le_of_ble_eq_true rfl⟩ (by unfold beatN; first | rw [if_pos c64] | rw [if_neg c64]) rfl
        · skip
          refine ww_iconst C (v := nI 2) dX2_beatsOf_67 (by decide) ?_
          refine ww_iload3 C dX2_beatsOf_68 ?_
          refine ww_imulN C dX2_beatsOf_69 ?_
          refine ww_goto C (tgt := 74) dX2_beatsOf_70 (by decide) ?_
          exact ww_ri C dX2_beatsOf_74 rfl ⟨Nat.le_of_ble_eq_true rfl, Nat.le_of_ble_eq_true rfl⟩ (by unfold beatN; first | rw [if_pos c64] | rw [if_neg c64]) rfl
      · skip
        refine ww_aload1 C dX2_beatsOf_19 ?_
        refine ww_iload2 C dX2_beatsOf_20 ?_
        refine ww_iload5 C dX2_beatsOf_21 ?_
        refine ww_cV2v C hN.1 rfl (c_saidAt g n w hN hi c16) kV_X2_67 ⟨Nat.le_of_ble_eq_true rfl, Nat.le_of_ble_eq_true rfl⟩ ⟨rfl, rfl⟩ ⟨Nat.le_of_ble_eq_true rfl, Nat.le_of_ble_eq_true rfl⟩ (Nat.le_of_ble_eq_true rfl) dX2_beatsOf_23 ?_
        refine ww_istore6 C dX2_beatsOf_26 (by decide) rfl ?_
        refine ww_iload3 C dX2_beatsOf_28 ?_
        refine ww_iload6 C dX2_beatsOf_29 ?_
        refine ww_iconst C (v := nI 0) dX2_beatsOf_31 (by decide) ?_
        refine ww_iconst C (v := nI 5) dX2_beatsOf_32 (by decide) ?_
        have hs5 := saidN_le (M := M2) hN.2.2.2.2.2.2.2 i q
        refine ww_cSN3v C (c_within g n w _ _ _) kSN_X2_51 ⟨Nat.le_of_ble_eq_true rfl, Nat.le_of_ble_eq_true rfl⟩ ⟨rfl, rfl⟩ ⟨Nat.le_of_ble_eq_true rfl, Nat.le_of_ble_eq_true rfl⟩ (Nat.le_of_ble_eq_true rfl) dX2_beatsOf_33 ?_
        refine ww_topi (show bz (wb (nI 0) (nI 5) (nI (saidN M2 S2 i q))) = bz true by rw [wb_N (by decide) (by decide) (by omega), decide_eq_true (by omega)]) ?_
        refine ww_ifeqB C (tgt := 49) dX2_beatsOf_36 (by decide) (fun c36 => ?_) (fun c36 => ?_)
        · skip
          cases c36
        · skip
          refine ww_aload0 C dX2_beatsOf_39 ?_
          refine ww_getf C fl_X2_32 hH.1 rfl dX2_beatsOf_40 ?_
          refine ww_iload6 C dX2_beatsOf_43 ?_
          refine ww_ialdN C hH.2.2.2.2.2.2.1 (by omega) dX2_beatsOf_45 (kk := ?_)
          refine ww_goto C (tgt := 50) dX2_beatsOf_46 (by decide) ?_
          refine ww_iaddN C dX2_beatsOf_50 ?_
          refine ww_istore3 C dX2_beatsOf_51 (by decide) rfl ?_
          refine ww_iincN5 C dX2_beatsOf_52 (by decide) rfl ?_
          refine ww_goto C (tgt := 12) dX2_beatsOf_55 (by decide) ?_
          exact ih12 (q + 1) _ (by omega) (by omega)
  exact lp12 (longN K2 M2 i + 1) 0 none (by omega) (by omega)
def dM (M sh : Nat → Nat) (d i : Nat) : Nat → Nat := if d ≤ 5 then (if sh d = 0 then gM M i else lM M i) else M
def dS (M S sh wo : Nat → Nat) (d i : Nat) : Nat → Nat := if d ≤ 5 then (if sh d = 0 then gS M S i (wo d) else S) else S
def dB (M sh : Nat → Nat) (d i : Nat) : Bool := if d ≤ 5 then (if sh d = 0 then decide (M i < 10) else true) else false
theorem c_doDeed (g : Gx) (n : Nat) (w : Wd) {k p b v mi : Nat} {K M S X R wo sh be : Nat → Nat} (hH : HR w k K M S p X R wo sh be b v mi) {j i p2 d : Nat} {K2 M2 S2 : Nat → Nat} (hN : NR w j K2 M2 S2 p2) (hi : i < p2) (hd : d < 2147483648) : CT g yX2_doDeed cX2_doDeed 4 (some .boolean) rm_X2_doDeed n n w [.ref k, .ref j, .int (nI i), .int (nI d)] (Rq (.int (bz (dB M2 sh d i))) (fun w1 => NR w1 j K2 (dM M2 sh d i) (dS M2 S2 sh wo d i) p2 ∧ fr w w1 j (j + 4))) := by
  refine CT.start [some (.ref k), some (.ref j), some (.int (nI i)), some (.int (nI d))] (by decide +kernel) rfl (Nat.le_of_ble_eq_true rfl) (fun x C hnm => ?_)
  refine ww_iload3 C dX2_doDeed_0 ?_
  refine ww_iconst C (v := nI 0) dX2_doDeed_1 (by decide) ?_
  refine ww_iconst C (v := nI 5) dX2_doDeed_2 (by decide) ?_
  refine ww_cSN3v C (c_within g n w _ _ _) kSN_X2_51 ⟨Nat.le_of_ble_eq_true rfl, Nat.le_of_ble_eq_true rfl⟩ ⟨rfl, rfl⟩ ⟨Nat.le_of_ble_eq_true rfl, Nat.le_of_ble_eq_true rfl⟩ (Nat.le_of_ble_eq_true rfl) dX2_doDeed_3 ?_
  refine ww_topi (show bz (wb (nI 0) (nI 5) (nI d)) = bz (decide (d ≤ 5)) by rw [wb_N (by decide) (by decide) hd]; congr 1; exact decide_eq_decide.mpr (by omega)) ?_
  refine ww_ifneB C (tgt := 11) dX2_doDeed_6 (by decide) (fun c6 => ?_) (fun c6 => ?_)
  · skip
    have c6 := of_decide_eq_true c6
    refine ww_aload0 C dX2_doDeed_11 ?_
    refine ww_getf C fl_X2_28 hH.1 rfl dX2_doDeed_12 ?_
    refine ww_iload3 C dX2_doDeed_15 ?_
    refine ww_zaldN C hH.2.2.2.2.2.1 (by omega) dX2_doDeed_16 (kk := ?_)
    refine ww_ifeqN C (by have := hH.2.2.2.2.2.2.2.2.2.2.1 d; omega) (tgt := 27) dX2_doDeed_17 (by decide) (fun c17 => ?_) (fun c17 => ?_)
    · skip
      refine ww_aload1 C dX2_doDeed_27 ?_
      refine ww_iload2 C dX2_doDeed_28 ?_
      refine ww_aload0 C dX2_doDeed_29 ?_
      refine ww_getf C fl_X2_25 hH.1 rfl dX2_doDeed_30 ?_
      refine ww_iload3 C dX2_doDeed_33 ?_
      refine ww_ialdN C hH.2.2.2.2.1 (by omega) dX2_doDeed_34 (kk := ?_)
      obtain ⟨u1, hN1, hf1, hc1⟩ := c_gain g n w hN hi (hH.2.2.2.2.2.2.2.2.2.1 d)
      refine ww_cV2v C hN.1 rfl (hc1) kV_X2_78 ⟨Nat.le_of_ble_eq_true rfl, Nat.le_of_ble_eq_true rfl⟩ ⟨rfl, rfl⟩ ⟨Nat.le_of_ble_eq_true rfl, Nat.le_of_ble_eq_true rfl⟩ (Nat.le_of_ble_eq_true rfl) dX2_doDeed_35 ?_
      exact ww_rzq C dX2_doDeed_38 rfl ⟨Nat.le_of_ble_eq_true rfl, Nat.le_of_ble_eq_true rfl⟩ (by unfold dB; rw [if_pos c6, if_pos c17]) ⟨by unfold dM dS; rw [if_pos c6, if_pos c17, if_pos c6, if_pos c17]; exact hN1, hf1⟩
    · skip
      refine ww_aload1 C dX2_doDeed_20 ?_
      refine ww_iload2 C dX2_doDeed_21 ?_
      obtain ⟨u1, hN1, hf1, hc1⟩ := c_lose g n w hN hi
      refine ww_cV10 C hN.1 rfl (hc1) kV_X2_74 ⟨Nat.le_of_ble_eq_true rfl, Nat.le_of_ble_eq_true rfl⟩ ⟨rfl, rfl⟩ ⟨Nat.le_of_ble_eq_true rfl, Nat.le_of_ble_eq_true rfl⟩ (Nat.le_of_ble_eq_true rfl) dX2_doDeed_22 ?_
      refine ww_iconst C (v := nI 1) dX2_doDeed_25 (by decide) ?_
      exact ww_rzq C dX2_doDeed_26 rfl ⟨Nat.le_of_ble_eq_true rfl, Nat.le_of_ble_eq_true rfl⟩ (by unfold dB; rw [if_pos c6, if_neg c17]; rfl) ⟨by unfold dM dS; rw [if_pos c6, if_neg c17, if_pos c6, if_neg c17]; exact hN1, hf1⟩
  · skip
    have c6 := of_decide_eq_false c6
    refine ww_iconst C (v := nI 0) dX2_doDeed_9 (by decide) ?_
    exact ww_rzq C dX2_doDeed_10 rfl ⟨Nat.le_of_ble_eq_true rfl, Nat.le_of_ble_eq_true rfl⟩ (by unfold dB; rw [if_neg c6]; rfl) ⟨by unfold dM dS; rw [if_neg c6, if_neg c6]; exact hN, fr.rf⟩
def drawN (z i t : Nat) : Nat := ((7919 * z + 6151 * i + 3571 * t + 1) * (7919 * z + 6151 * i + 3571 * t + 1)) % 65521 % 12
theorem drawN_lt (z i t : Nat) : drawN z i t < 12 := Nat.mod_lt _ (by decide)
theorem draw_sq {x : Nat} (h : x < 100000000) : x * x < 9223372036854775808 := Nat.lt_of_le_of_lt (Nat.mul_le_mul (Nat.le_of_lt h) (Nat.le_of_lt h)) (by decide)
theorem c_drawnDeed (g : Gx) (n : Nat) (w : Wd) {z i t : Nat} (hz : z ≤ 9999) (hi : i ≤ 8) (ht : t ≤ 60) : CT g yX2_drawnDeed cX2_drawnDeed 5 (some .int) rm_X2_drawnDeed n n w [.int (nI z), .int (nI i), .int (nI t)] (Rv (.int (nI (drawN z i t))) w) := by
  refine CT.start [some (.int (nI z)), some (.int (nI i)), some (.int (nI t)), none, none] (by decide +kernel) rfl (Nat.le_of_ble_eq_true rfl) (fun x C hnm => ?_)
  refine ww_ldc2 C (v := 7919) kc_X2_94 dX2_drawnDeed_0 ?_
  refine ww_topl (show (7919 : Int64) = lN 7919 by decide) ?_
  refine ww_iload0 C dX2_drawnDeed_3 ?_
  refine ww_i2lN C (by omega) dX2_drawnDeed_4 ?_
  refine ww_lmulN C dX2_drawnDeed_5 ?_
  refine ww_ldc2 C (v := 6151) kc_X2_96 dX2_drawnDeed_6 ?_
  refine ww_topl (show (6151 : Int64) = lN 6151 by decide) ?_
  refine ww_iload1 C dX2_drawnDeed_9 ?_
  refine ww_i2lN C (by omega) dX2_drawnDeed_10 ?_
  refine ww_lmulN C dX2_drawnDeed_11 ?_
  refine ww_laddN C dX2_drawnDeed_12 ?_
  refine ww_ldc2 C (v := 3571) kc_X2_98 dX2_drawnDeed_13 ?_
  refine ww_topl (show (3571 : Int64) = lN 3571 by decide) ?_
  refine ww_iload2 C dX2_drawnDeed_16 ?_
  refine ww_i2lN C (by omega) dX2_drawnDeed_17 ?_
  refine ww_lmulN C dX2_drawnDeed_18 ?_
  refine ww_laddN C dX2_drawnDeed_19 ?_
  refine ww_lconst C (v := lN 1) dX2_drawnDeed_20 (by decide) ?_
  refine ww_laddN C dX2_drawnDeed_21 ?_
  refine ww_lstore3 C dX2_drawnDeed_22 (by decide) rfl ?_
  refine ww_lload3 C dX2_drawnDeed_23 ?_
  refine ww_lload3 C dX2_drawnDeed_24 ?_
  refine ww_lmulN C dX2_drawnDeed_25 ?_
  refine ww_ldc2 C (v := 65521) kc_X2_100 dX2_drawnDeed_26 ?_
  refine ww_topl (show (65521 : Int64) = lN 65521 by decide) ?_
  refine ww_lremN C (⟨by decide, draw_sq (by omega), by decide⟩) dX2_drawnDeed_29 ?_
  refine ww_ldc2 C (v := 12) kc_X2_102 dX2_drawnDeed_30 ?_
  refine ww_topl (show (12 : Int64) = lN 12 by decide) ?_
  refine ww_lremN C (⟨by decide, by omega, by decide⟩) dX2_drawnDeed_33 ?_
  refine ww_l2iN C dX2_drawnDeed_34 ?_
  exact ww_ri C dX2_drawnDeed_35 rfl ⟨Nat.le_of_ble_eq_true rfl, Nat.le_of_ble_eq_true rfl⟩ rfl rfl
def inY (sh wo : Nat → Nat) (z t : Nat) (q : (Nat → Nat) × (Nat → Nat)) : Nat → (Nat → Nat) × (Nat → Nat)
  | 0 => q
  | i + 1 => (dM (inY sh wo z t q i).1 sh (drawN z i t) i, dS (inY sh wo z t q i).1 (inY sh wo z t q i).2 sh wo (drawN z i t) i)
def outY (sh wo : Nat → Nat) (z p : Nat) (q : (Nat → Nat) × (Nat → Nat)) : Nat → (Nat → Nat) × (Nat → Nat)
  | 0 => q
  | t + 1 => inY sh wo z t (outY sh wo z p q t) p
theorem c_liveYears (g : Gx) (n : Nat) (w : Wd) {k p b v mi : Nat} {K M S X R wo sh be : Nat → Nat} (hH : HR w k K M S p X R wo sh be b v mi) {j r p2 p3 z y : Nat} {K2 M2 S2 K3 M3 S3 : Nat → Nat} (hN : NR w j K3 M3 S3 p3) (hT : NR w r K2 M2 S2 p2) (hd : r + 4 ≤ j ∨ j + 4 ≤ r) (hd2 : k + 10 ≤ j ∨ j + 4 ≤ k) (hz : z ≤ 9999) (hy : y ≤ 60) : CT g yX2_liveYears cX2_liveYears 7 none rm_X2_liveYears n n w [.ref k, .ref j, .ref r, .int (nI z), .int (nI y)] (R0q (fun w1 => NR w1 j K2 (outY sh wo z p2 (M2, S2) y).1 (outY sh wo z p2 (M2, S2) y).2 p2 ∧ fr w w1 j (j + 4))) := by
  have hp2 := hT.2.2.2.2.1
  refine CT.start [some (.ref k), some (.ref j), some (.ref r), some (.int (nI z)), some (.int (nI y)), none, none] (by decide +kernel) rfl (Nat.le_of_ble_eq_true rfl) (fun x C hnm => ?_)
  refine ww_aload1 C dX2_liveYears_0 ?_
  refine ww_aload2 C dX2_liveYears_1 ?_
  obtain ⟨u1, hN1, hf1, hc1⟩ := c_copyFrom g n w hN hT (by omega)
  refine ww_cV10 C hN.1 rfl (hc1) kV_X2_82 ⟨Nat.le_of_ble_eq_true rfl, Nat.le_of_ble_eq_true rfl⟩ ⟨rfl, rfl⟩ ⟨Nat.le_of_ble_eq_true rfl, Nat.le_of_ble_eq_true rfl⟩ (Nat.le_of_ble_eq_true rfl) dX2_liveYears_2 ?_
  have hN := hN1
  have hH := hH.frm hf1 (by omega)
  refine ww_iconst C (v := nI 0) dX2_liveYears_5 (by decide) ?_
  refine ww_istore5 C dX2_liveYears_6 (by decide) rfl ?_
  have lp8 : ∀ (m : Nat) (t : Nat) (u : Wd) (q6 : Option Value), t ≤ y → y < t + m → NR u j K2 (outY sh wo z p2 (M2, S2) t).1 (outY sh wo z p2 (M2, S2) t).2 p2 → HR u k K M S p X R wo sh be b v mi → fr w u j (j + 4) → WW g x 7 0 0 n u 8 [some (.ref k), some (.ref j), some (.ref r), some (.int (nI z)), some (.int (nI y)), some (.int (nI t)), q6] [] := by
    intro m
    induction m with
    | zero =>
      intro t u q6 ht0 hm hN hH hf
      exact absurd hm (by omega)
    | succ m ih8 =>
      intro t u q6 ht0 hm hN hH hf
      refine ww_iload5 C dX2_liveYears_8 ?_
      refine ww_iload4 C dX2_liveYears_10 ?_
      refine ww_icmpgeN C (by omega) (tgt := 62) dX2_liveYears_12 (by decide) (fun c12 => ?_) (fun c12 => ?_)
      · skip
        have e : y = t := by omega
        subst e
        exact ww_rvq C dX2_liveYears_62 rfl ⟨Nat.le_of_ble_eq_true rfl, Nat.le_of_ble_eq_true rfl⟩ ⟨hN, hf⟩
      · skip
        refine ww_iload5 C dX2_liveYears_15 ?_
        refine ww_bipush C (v := nI 60) dX2_liveYears_17 (by decide) ?_
        refine ww_icmpgeN C (by omega) (tgt := 62) dX2_liveYears_19 (by decide) (fun c19 => ?_) (fun c19 => ?_)
        · skip
          omega
        · skip
          refine ww_iconst C (v := nI 0) dX2_liveYears_22 (by decide) ?_
          refine ww_istore6 C dX2_liveYears_23 (by decide) rfl ?_
          have lp25 : ∀ (m : Nat) (i : Nat) (u : Wd), i ≤ p2 → p2 < i + m → NR u j K2 (inY sh wo z t (outY sh wo z p2 (M2, S2) t) i).1 (inY sh wo z t (outY sh wo z p2 (M2, S2) t) i).2 p2 → HR u k K M S p X R wo sh be b v mi → fr w u j (j + 4) → WW g x 7 0 0 n u 25 [some (.ref k), some (.ref j), some (.ref r), some (.int (nI z)), some (.int (nI y)), some (.int (nI t)), some (.int (nI i))] [] := by
            intro m
            induction m with
            | zero =>
              intro i u hi0 hmi hN hH hf
              exact absurd hmi (by omega)
            | succ m ih25 =>
              intro i u hi0 hmi hN hH hf
              refine ww_iload6 C dX2_liveYears_25 ?_
              refine ww_aload1 C dX2_liveYears_27 ?_
              refine ww_getf C fl_X2_38 hN.1 rfl dX2_liveYears_28 ?_
              refine ww_icmpgeN C (by omega) (tgt := 56) dX2_liveYears_31 (by decide) (fun c31 => ?_) (fun c31 => ?_)
              · skip
                have e : p2 = i := by omega
                subst e
                refine ww_iincN5 C dX2_liveYears_56 (by decide) rfl ?_
                refine ww_goto C (tgt := 8) dX2_liveYears_59 (by decide) ?_
                exact ih8 (t + 1) _ _ (by omega) (by omega) hN hH hf
              · skip
                refine ww_aload0 C dX2_liveYears_34 ?_
                refine ww_aload1 C dX2_liveYears_35 ?_
                refine ww_iload6 C dX2_liveYears_36 ?_
                refine ww_iload3 C dX2_liveYears_38 ?_
                refine ww_iload6 C dX2_liveYears_39 ?_
                refine ww_iload5 C dX2_liveYears_41 ?_
                refine ww_cS3v C (c_drawnDeed g n u (z := z) (i := i) (t := t) (by omega) (by omega) (by omega)) kS_X2_86 ⟨Nat.le_of_ble_eq_true rfl, Nat.le_of_ble_eq_true rfl⟩ ⟨rfl, rfl⟩ ⟨Nat.le_of_ble_eq_true rfl, Nat.le_of_ble_eq_true rfl⟩ (Nat.le_of_ble_eq_true rfl) dX2_liveYears_43 ?_
                have hdl := drawN_lt z i t
                refine ww_cV3vq C hH.1 rfl (c_doDeed g n u hH hN c31 (by omega)) kV_X2_90 ⟨Nat.le_of_ble_eq_true rfl, Nat.le_of_ble_eq_true rfl⟩ ⟨rfl, rfl⟩ ⟨Nat.le_of_ble_eq_true rfl, Nat.le_of_ble_eq_true rfl⟩ (Nat.le_of_ble_eq_true rfl) dX2_liveYears_46 (fun w1 hw1 => ?_)
                obtain ⟨hN5, hf5⟩ := hw1
                refine ww_pop C dX2_liveYears_49 rfl ?_
                refine ww_iincN6 C dX2_liveYears_50 (by decide) rfl ?_
                refine ww_goto C (tgt := 25) dX2_liveYears_53 (by decide) ?_
                exact ih25 (i + 1) _ (by omega) (by omega) hN5 (hH.frm hf5 (by omega)) (hf.tr hf5)
          exact lp25 (p2 + 1) 0 _ (by omega) (by omega) hN hH hf
  exact lp8 (y + 1) 0 _ none (by omega) (by omega) hN hH hf1
