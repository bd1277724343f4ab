theorem m_keep (g : Gx) (n : Nat) (w : Wd) {t : Nat → Nat} {len : Nat} {h : Hs} {a : Ms} {kn : Nat} {k1 k2 : Ms} (hMR : MR w t len h a kn k1 k2) (hB : Bd h a) (hBk : Bk kn k1 k2) : CT g yX7_keep cX7_keep 1 (some .int) rm_X7_keep n n w [.ref 59] (Rq (.int (V_keep kn)) (fun w1 => MR w1 t len h a (N_keep kn) (K1_keep a kn k1) (K2_keep a kn k2) ∧ fr w w1 59 83)) := by
  obtain ⟨A, pl, hM, hRl⟩ := id hMR
  have hf : fr w w 59 83 := fr.rf
  obtain ⟨⟨hp1, hp8⟩, ⟨hb1, hb12, hv20, hmi9⟩, hK3, hM10, hS5, hM1, hX99, hR9, hwo5, hsh1, hbe9, hhd9, hhn12⟩ := id hB
  obtain ⟨hln, hkn2, htx, hRH, hRN, hRE, hk1r, hk2r⟩ := id hRl
  obtain ⟨rp, rX, rw_, rb, rv, rm_⟩ := id hRH
  refine CT.start [some (.ref 59)] (by decide +kernel) rfl (Nat.le_of_ble_eq_true rfl) (fun x C hnm => ?_)
  refine ww_aload0 C dX7_keep_0 ?_
  refine ww_getf C fl_X7_132 hM.1 rfl dX7_keep_1 ?_
  refine ww_iconst C (v := nI 2) dX7_keep_4 (by decide) ?_
  refine ww_icmpneN C (by omega) (tgt := 11) dX7_keep_5 (by decide) (fun c5 => ?_) (fun c5 => ?_)
  · skip
    refine ww_aload0 C dX7_keep_11 ?_
    refine ww_dup C dX7_keep_12 rfl ?_
    refine ww_getf C fl_X7_132 hM.1 rfl dX7_keep_13 ?_
    refine ww_iconst C (v := nI 1) dX7_keep_16 (by decide) ?_
    refine ww_iaddN C dX7_keep_17 ?_
    refine ww_putI C fl_X7_132 hM.1 (Nat.le_of_ble_eq_true rfl) rfl dX7_keep_18 (fun w1 hw1 => ?_)
    have hf : fr w w1 59 83 := hf.tr (fr.up hw1 (by omega) (by omega))
    have hM := hM.setO (km2 := kn + 1) hw1
    refine ww_aload0 C dX7_keep_21 ?_
    refine ww_iconst C (v := nI 0) dX7_keep_22 (by decide) ?_
    refine ww_iconst C (v := nI 1) dX7_keep_23 (by decide) ?_
    refine ww_aload0 C dX7_keep_24 ?_
    refine ww_getf C fl_X7_132 hM.1 rfl dX7_keep_25 ?_
    refine ww_iaddN C dX7_keep_28 ?_
    rw [show 1 + (kn + 1) = kn + 2 by omega]
    refine ww_cV20q C hM.1 rfl (m_copy g n w1 hM (ca := 0) (cb := kn + 2) (by omega) (by omega) (by omega)) kV_X7_213 ⟨Nat.le_of_ble_eq_true rfl, Nat.le_of_ble_eq_true rfl⟩ ⟨rfl, rfl⟩ ⟨Nat.le_of_ble_eq_true rfl, Nat.le_of_ble_eq_true rfl⟩ (Nat.le_of_ble_eq_true rfl) dX7_keep_29 (fun w2 hw2 => ?_)
    obtain ⟨B, hM, hf1, hCp⟩ := hw2
    have hf := hf.tr hf1
    refine ww_aload0 C dX7_keep_32 ?_
    refine ww_iconst C (v := nI 0) dX7_keep_33 (by decide) ?_
    refine ww_aload0 C dX7_keep_34 ?_
    refine ww_getf C fl_X7_132 hM.1 rfl dX7_keep_35 ?_
    refine ww_cV20q C hM.1 rfl (m_copyHeard g n w2 hM (ca := 0) (cb := kn + 1) (by omega) (by omega) (by omega)) kV_X7_236 ⟨Nat.le_of_ble_eq_true rfl, Nat.le_of_ble_eq_true rfl⟩ ⟨rfl, rfl⟩ ⟨Nat.le_of_ble_eq_true rfl, Nat.le_of_ble_eq_true rfl⟩ (Nat.le_of_ble_eq_true rfl) dX7_keep_38 (fun w3 hw3 => ?_)
    obtain ⟨D, hM, hf2, hCh⟩ := hw3
    have hf := hf.tr hf2
    refine ww_aload0 C dX7_keep_41 ?_
    refine ww_getf C fl_X7_132 hM.1 rfl dX7_keep_42 ?_
    exact ww_riq C dX7_keep_45 rfl ⟨Nat.le_of_ble_eq_true rfl, Nat.le_of_ble_eq_true rfl⟩ (by unfold V_keep; rw [if_pos (by omega)]) ⟨by
          have hD : ∀ b, b < 11 → D b = A b := fun b hb => (hCh.1 b (by omega) (by omega)).trans (hCp.1 b (by omega) (by omega) (by omega))
          have hRE1 : ∀ {bk m : Nat} {hd : Nat → Nat}, RE A bk hd m → RE B bk hd m := fun h => h.eqv (hCp.1 14 (by decide) (by decide) (by decide)) (hCp.1 15 (by decide) (by decide) (by decide))
          have hRN1 : ∀ {bk p : Nat} {K M S : Nat → Nat}, RN B bk p K M S → RN D bk p K M S := fun h => h.eqv (hCh.1 11 (by decide) (by decide)) (hCh.1 12 (by decide) (by decide)) (hCh.1 13 (by decide) (by decide))
          have hnow : RN D 0 h.2.2.2.1 a.1 a.2.1 a.2.2.1 := hRN1 (hCp.oth hp8 hM10 (by omega) hRN)
          have hnw2 : RN D (kn + 2) h.2.2.2.1 a.1 a.2.1 a.2.2.1 := hRN1 (hCp.rn hp8 hM10 hRN)
          have hear0 : RE D 0 a.2.2.2.1 a.2.2.2.2 := hCh.oth hhn12 (by omega) (hRE1 hRE)
          have hear2 : RE D (kn + 1) a.2.2.2.1 a.2.2.2.2 := hCh.re hhn12 (hRE1 hRE)
          unfold N_keep K1_keep K2_keep
          have hk1 : kn < 2 := by omega
          rw [if_pos hk1]
          by_cases ck : kn = 0
          · rw [if_pos (And.intro (by omega) ck), if_neg (fun e => e.2 ck)]
            subst ck
            exact ⟨D, pl, hM, hln, by omega, fun j hj => (congrFun (hD 0 (by decide)) j).trans (htx j hj), hRH.eqv hD, hnow, hear0, fun _ => ⟨hnw2, hear2⟩, fun e => absurd e (by omega)⟩
          · rw [if_neg (fun e => ck e.2), if_pos (And.intro (by omega) ck)]
            have ek : kn = 1 := by omega
            subst ek
            exact ⟨D, pl, hM, hln, by omega, fun j hj => (congrFun (hD 0 (by decide)) j).trans (htx j hj), hRH.eqv hD, hnow, hear0, fun e => ⟨hRN1 (hCp.oth hp8 (hBk.1 (by omega)).1 (by omega) (hk1r (by omega)).1), hCh.oth (hBk.1 (by omega)).2 (by omega) (hRE1 (hk1r (by omega)).2)⟩, fun _ => ⟨hnw2, hear2⟩⟩, hf⟩
  · skip
    refine ww_bipush C (v := -3) dX7_keep_8 (by decide) ?_
    exact ww_riq C dX7_keep_10 rfl ⟨Nat.le_of_ble_eq_true rfl, Nat.le_of_ble_eq_true rfl⟩ (by unfold V_keep; rw [if_neg (by omega)]) ⟨by unfold N_keep K1_keep K2_keep; rw [if_neg (by omega), if_neg (by omega), if_neg (by omega)]; exact hMR, fr.rf⟩
theorem m_back (g : Gx) (n : Nat) (w : Wd) {t : Nat → Nat} {len : Nat} {h : Hs} {a : Ms} {kn : Nat} {k1 k2 : Ms} (hMR : MR w t len h a kn k1 k2) (hB : Bd h a) (hBk : Bk kn k1 k2) : CT g yX7_back cX7_back 1 (some .int) rm_X7_back n n w [.ref 59] (Rq (.int (V_back kn)) (fun w1 => MR w1 t len h (A_back a kn k1 k2) (N_back kn) k1 k2 ∧ fr w w1 59 83)) := by
  obtain ⟨A, pl, hM, hRl⟩ := id hMR
  have hf : fr w w 59 83 := fr.rf
  obtain ⟨⟨hp1, hp8⟩, ⟨hb1, hb12, hv20, hmi9⟩, hK3, hM10, hS5, hM1, hX99, hR9, hwo5, hsh1, hbe9, hhd9, hhn12⟩ := id hB
  obtain ⟨hln, hkn2, htx, hRH, hRN, hRE, hk1r, hk2r⟩ := id hRl
  obtain ⟨rp, rX, rw_, rb, rv, rm_⟩ := id hRH
  refine CT.start [some (.ref 59)] (by decide +kernel) rfl (Nat.le_of_ble_eq_true rfl) (fun x C hnm => ?_)
  refine ww_aload0 C dX7_back_0 ?_
  refine ww_getf C fl_X7_132 hM.1 rfl dX7_back_1 ?_
  refine ww_ifneN C (by omega) (tgt := 10) dX7_back_4 (by decide) (fun c4 => ?_) (fun c4 => ?_)
  · skip
    refine ww_aload0 C dX7_back_10 ?_
    refine ww_iconst C (v := nI 1) dX7_back_11 (by decide) ?_
    refine ww_aload0 C dX7_back_12 ?_
    refine ww_getf C fl_X7_132 hM.1 rfl dX7_back_13 ?_
    refine ww_iaddN C dX7_back_16 ?_
    refine ww_iconst C (v := nI 0) dX7_back_17 (by decide) ?_
    rw [show 1 + kn = kn + 1 by omega]
    refine ww_cV20q C hM.1 rfl (m_copy g n w hM (ca := kn + 1) (cb := 0) (by omega) (by omega) (by omega)) kV_X7_213 ⟨Nat.le_of_ble_eq_true rfl, Nat.le_of_ble_eq_true rfl⟩ ⟨rfl, rfl⟩ ⟨Nat.le_of_ble_eq_true rfl, Nat.le_of_ble_eq_true rfl⟩ (Nat.le_of_ble_eq_true rfl) dX7_back_18 (fun w1 hw1 => ?_)
    obtain ⟨B, hM, hf1, hCp⟩ := hw1
    have hf := hf.tr hf1
    refine ww_aload0 C dX7_back_21 ?_
    refine ww_aload0 C dX7_back_22 ?_
    refine ww_getf C fl_X7_132 hM.1 rfl dX7_back_23 ?_
    refine ww_iconst C (v := nI 0) dX7_back_26 (by decide) ?_
    refine ww_cV20q C hM.1 rfl (m_copyHeard g n w1 hM (ca := kn) (cb := 0) (by omega) (by omega) (by omega)) kV_X7_236 ⟨Nat.le_of_ble_eq_true rfl, Nat.le_of_ble_eq_true rfl⟩ ⟨rfl, rfl⟩ ⟨Nat.le_of_ble_eq_true rfl, Nat.le_of_ble_eq_true rfl⟩ (Nat.le_of_ble_eq_true rfl) dX7_back_27 (fun w2 hw2 => ?_)
    obtain ⟨D, hM, hf2, hCh⟩ := hw2
    have hf := hf.tr hf2
    refine ww_aload0 C dX7_back_30 ?_
    refine ww_dup C dX7_back_31 rfl ?_
    refine ww_getf C fl_X7_132 hM.1 rfl dX7_back_32 ?_
    refine ww_iconst C (v := nI 1) dX7_back_35 (by decide) ?_
    refine ww_isubN C (by omega) dX7_back_36 ?_
    refine ww_putI C fl_X7_132 hM.1 (Nat.le_of_ble_eq_true rfl) rfl dX7_back_37 (fun w3 hw3 => ?_)
    have hf : fr w w3 59 83 := hf.tr (fr.up hw3 (by omega) (by omega))
    have hM := hM.setO (km2 := kn - 1) hw3
    refine ww_aload0 C dX7_back_40 ?_
    refine ww_getf C fl_X7_132 hM.1 rfl dX7_back_41 ?_
    exact ww_riq C dX7_back_44 rfl ⟨Nat.le_of_ble_eq_true rfl, Nat.le_of_ble_eq_true rfl⟩ (by unfold V_back; rw [if_pos (by omega)]) ⟨by
          have hD : ∀ b, b < 11 → D b = A b := fun b hb => (hCh.1 b (by omega) (by omega)).trans (hCp.1 b (by omega) (by omega) (by omega))
          have hRE1 : ∀ {bk m : Nat} {hd : Nat → Nat}, RE A bk hd m → RE B bk hd m := fun h => h.eqv (hCp.1 14 (by decide) (by decide) (by decide)) (hCp.1 15 (by decide) (by decide) (by decide))
          have hRN1 : ∀ {bk p : Nat} {K M S : Nat → Nat}, RN B bk p K M S → RN D bk p K M S := fun h => h.eqv (hCh.1 11 (by decide) (by decide)) (hCh.1 12 (by decide) (by decide)) (hCh.1 13 (by decide) (by decide))
          unfold N_back A_back
          have hk1 : 1 ≤ kn := by omega
          rw [if_pos hk1, if_pos hk1]
          by_cases ck : kn - 1 = 0
          · rw [if_pos ck]
            have ek : kn = 1 := by omega
            subst ek
            exact ⟨D, pl, hM, hln, by omega, fun j hj => (congrFun (hD 0 (by decide)) j).trans (htx j hj), hRH.eqv hD, hRN1 (hCp.rn hp8 (hBk.1 (by omega)).1 (hk1r (by omega)).1), hCh.re (hBk.1 (by omega)).2 (hRE1 (hk1r (by omega)).2), fun e => absurd e (by omega), fun e => absurd e (by omega)⟩
          · rw [if_neg ck]
            have ek : kn = 2 := by omega
            subst ek
            exact ⟨D, pl, hM, hln, by omega, fun j hj => (congrFun (hD 0 (by decide)) j).trans (htx j hj), hRH.eqv hD, hRN1 (hCp.rn hp8 (hBk.2 (by omega)).1 (hk2r (by omega)).1), hCh.re (hBk.2 (by omega)).2 (hRE1 (hk2r (by omega)).2), fun e => ⟨hRN1 (hCp.oth hp8 (hBk.1 (by omega)).1 (by omega) (hk1r (by omega)).1), hCh.oth (hBk.1 (by omega)).2 (by omega) (hRE1 (hk1r (by omega)).2)⟩, fun e => absurd e (by omega)⟩, hf⟩
  · skip
    refine ww_bipush C (v := -2) dX7_back_7 (by decide) ?_
    exact ww_riq C dX7_back_9 rfl ⟨Nat.le_of_ble_eq_true rfl, Nat.le_of_ble_eq_true rfl⟩ (by unfold V_back; rw [if_neg (by omega)]) ⟨by unfold N_back A_back; rw [if_neg (by omega), if_neg (by omega)]; exact hMR, fr.rf⟩
theorem cdiv_pos {a b : Nat} (ha : 1 ≤ a) (hb : 1 ≤ b) : 1 ≤ (a + b - 1) / b := (Nat.le_div_iff_mul_le (by omega)).mpr (by omega)
theorem sumN_lt {f : Nat → Nat} {b : Nat} : ∀ {n : Nat}, (∀ i, i < n → f i ≤ b) → sumN f n ≤ n * b
  | 0, _ => by simp [sumN]
  | n + 1, h => by
    have h1 := sumN_lt (n := n) (fun i hi => h i (by omega))
    have h2 := h n (by omega)
    show sumN f n + f n ≤ (n + 1) * b
    rw [Nat.add_mul, Nat.one_mul]
    omega
theorem m_cryOf (g : Gx) (n : Nat) (w : Wd) {A : Nat → Nat → Nat} {len pl km : Nat} (hM : MO w A len pl km) {p b v s : Nat} {Lo Be : Nat → Nat} (hp : A 1 0 = p) (hp8 : p ≤ 8) (hb : A 10 0 = b) (hb1 : 1 ≤ b ∧ b ≤ 12) (hv : A 10 1 = v) (hs : s < 256) (hLo : ∀ i, i < p → A 18 i = Lo i ∧ Lo i ≤ 20) (hBe : ∀ i, i < p → A 19 i = Be i ∧ Be i ≤ 360) : CT g yX7_cryOf cX7_cryOf 5 (some .int) rm_X7_cryOf n n w [.ref 59, .int (nI s)] (Rv (.int (nI (cryN p Lo Be b v s))) w) := by
  refine CT.start [some (.ref 59), some (.int (nI s)), none, none, none] (by decide +kernel) rfl (Nat.le_of_ble_eq_true rfl) (fun x C hnm => ?_)
  refine ww_iconst C (v := nI 0) dX7_cryOf_0 (by decide) ?_
  refine ww_istore2 C dX7_cryOf_1 (by decide) rfl ?_
  refine ww_iconst C (v := nI 0) dX7_cryOf_2 (by decide) ?_
  refine ww_istore3 C dX7_cryOf_3 (by decide) rfl ?_
  refine ww_iconst C (v := nI 0) dX7_cryOf_4 (by decide) ?_
  refine ww_istore4 C dX7_cryOf_5 (by decide) rfl ?_
  have lp7 : ∀ (m : Nat) (i : Nat), i ≤ p → p < i + m → WW g x 5 0 0 n w 7 [some (.ref 59), some (.int (nI s)), some (.int (nI (sumN (fun i => if tb s i = true then Be i else 0) i))), some (.int (nI (sumN (fun i => if tb s i = true then Lo i else 0) i))), some (.int (nI i))] [] := by
    intro m
    induction m with
    | zero =>
      intro i hi0 hm
      exact absurd hm (by omega)
    | succ m ih7 =>
      intro i hi0 hm
      refine ww_iload4 C dX7_cryOf_7 ?_
      refine ww_aload0 C dX7_cryOf_9 ?_
      refine ww_getf C fl_X7_13 hM.1 rfl dX7_cryOf_10 ?_
      refine ww_iconst C (v := nI 0) dX7_cryOf_13 (by decide) ?_
      refine ww_ialdN C hM.a1 (by decide) dX7_cryOf_14 (kk := ?_)
      rw [hp]
      refine ww_icmpgeN C (by omega) (tgt := 70) dX7_cryOf_15 (by decide) (fun c15 => ?_) (fun c15 => ?_)
      · skip
        have ei : i = p := by omega
        subst ei
        have hsl : sumN (fun i => if tb s i = true then Lo i else 0) i ≤ i * 20 := sumN_lt (fun j hj => by split; exact (hLo j hj).2; omega)
        have hsb : sumN (fun i => if tb s i = true then Be i else 0) i ≤ i * 360 := sumN_lt (fun j hj => by split; exact (hBe j hj).2; omega)
        refine ww_iload2 C dX7_cryOf_70 ?_
        refine ww_iload3 C dX7_cryOf_71 ?_
        refine ww_ifneN C (by omega) (tgt := 79) dX7_cryOf_72 (by decide) (fun c72 => ?_) (fun c72 => ?_)
        · skip
          refine ww_aload0 C dX7_cryOf_79 ?_
          refine ww_getf C fl_X7_40 hM.1 rfl dX7_cryOf_80 ?_
          refine ww_iconst C (v := nI 1) dX7_cryOf_83 (by decide) ?_
          refine ww_ialdN C hM.a10 (by decide) dX7_cryOf_84 (kk := ?_)
          rw [hv]
          refine ww_iload3 C dX7_cryOf_85 ?_
          refine ww_aload0 C dX7_cryOf_86 ?_
          refine ww_getf C fl_X7_40 hM.1 rfl dX7_cryOf_87 ?_
          refine ww_iconst C (v := nI 0) dX7_cryOf_90 (by decide) ?_
          refine ww_ialdN C hM.a10 (by decide) dX7_cryOf_91 (kk := ?_)
          rw [hb]
          refine ww_iaddN C dX7_cryOf_92 ?_
          refine ww_iconst C (v := nI 1) dX7_cryOf_93 (by decide) ?_
          refine ww_isubN C (by omega) dX7_cryOf_94 ?_
          refine ww_aload0 C dX7_cryOf_95 ?_
          refine ww_getf C fl_X7_40 hM.1 rfl dX7_cryOf_96 ?_
          refine ww_iconst C (v := nI 0) dX7_cryOf_99 (by decide) ?_
          refine ww_ialdN C hM.a10 (by decide) dX7_cryOf_100 (kk := ?_)
          rw [hb]
          refine ww_idivN C (by omega) dX7_cryOf_101 ?_
          refine ww_iconst C (v := nI 1) dX7_cryOf_102 (by decide) ?_
          refine ww_isubN C (cdiv_pos (by omega) (by omega)) dX7_cryOf_103 ?_
          refine ww_imulN C dX7_cryOf_104 ?_
          refine ww_iaddN C dX7_cryOf_105 ?_
          exact ww_ri C dX7_cryOf_106 rfl ⟨Nat.le_of_ble_eq_true rfl, Nat.le_of_ble_eq_true rfl⟩ (by unfold cryN; rw [if_neg c72]) rfl
        · skip
          refine ww_iconst C (v := nI 0) dX7_cryOf_75 (by decide) ?_
          refine ww_goto C (tgt := 105) dX7_cryOf_76 (by decide) ?_
          refine ww_iaddN C dX7_cryOf_105 ?_
          exact ww_ri C dX7_cryOf_106 rfl ⟨Nat.le_of_ble_eq_true rfl, Nat.le_of_ble_eq_true rfl⟩ (by unfold cryN; rw [if_pos c72]; rfl) rfl
      · skip
        refine ww_iload2 C dX7_cryOf_18 ?_
        refine ww_iload1 C dX7_cryOf_19 ?_
        refine ww_iload4 C dX7_cryOf_20 ?_
        have jn39 : ∀ (e : Nat), e = (if tb s i = true then Be i else 0) → WW g x 5 0 0 n w 39 [some (.ref 59), some (.int (nI s)), some (.int (nI (sumN (fun i => if tb s i = true then Be i else 0) i))), some (.int (nI (sumN (fun i => if tb s i = true then Lo i else 0) i))), some (.int (nI i))] [.int (nI e), .int (nI (sumN (fun i => if tb s i = true then Be i else 0) i))] := by
          intro e he
          subst he
          refine ww_iaddN C dX7_cryOf_39 ?_
          rw [show sumN (fun i => if tb s i = true then Be i else 0) i + (if tb s i = true then Be i else 0) = sumN (fun i => if tb s i = true then Be i else 0) (i + 1) from rfl]
          refine ww_istore2 C dX7_cryOf_40 (by decide) rfl ?_
          refine ww_iload3 C dX7_cryOf_41 ?_
          refine ww_iload1 C dX7_cryOf_42 ?_
          refine ww_iload4 C dX7_cryOf_43 ?_
          have jn62 : ∀ (e : Nat), e = (if tb s i = true then Lo i else 0) → WW g x 5 0 0 n w 62 [some (.ref 59), some (.int (nI s)), some (.int (nI (sumN (fun i => if tb s i = true then Be i else 0) (i + 1)))), some (.int (nI (sumN (fun i => if tb s i = true then Lo i else 0) i))), some (.int (nI i))] [.int (nI e), .int (nI (sumN (fun i => if tb s i = true then Lo i else 0) i))] := by
            intro e he
            subst he
            refine ww_iaddN C dX7_cryOf_62 ?_
            rw [show sumN (fun i => if tb s i = true then Lo i else 0) i + (if tb s i = true then Lo i else 0) = sumN (fun i => if tb s i = true then Lo i else 0) (i + 1) from rfl]
            refine ww_istore3 C dX7_cryOf_63 (by decide) rfl ?_
            refine ww_iincN4 C dX7_cryOf_64 (by decide) rfl ?_
            refine ww_goto C (tgt := 7) dX7_cryOf_67 (by decide) ?_
            exact ih7 (i + 1) (by omega) (by omega)
          refine ww_cS2v C (c_mhas g n w (s := s) (i := i) (by omega) (by omega)) kS_X7_153 ⟨Nat.le_of_ble_eq_true rfl, Nat.le_of_ble_eq_true rfl⟩ ⟨rfl, rfl⟩ ⟨Nat.le_of_ble_eq_true rfl, Nat.le_of_ble_eq_true rfl⟩ (Nat.le_of_ble_eq_true rfl) dX7_cryOf_45 ?_
          refine ww_ifeqB C (tgt := 61) dX7_cryOf_48 (by decide) (fun c48 => ?_) (fun c48 => ?_)
          · skip
            refine ww_iconst C (v := nI 0) dX7_cryOf_61 (by decide) ?_
            exact jn62 0 (by rw [c48]; rfl)
          · skip
            refine ww_aload0 C dX7_cryOf_51 ?_
            refine ww_getf C fl_X7_64 hM.1 rfl dX7_cryOf_52 ?_
            refine ww_iload4 C dX7_cryOf_55 ?_
            refine ww_ialdN C hM.a18 (by omega) dX7_cryOf_57 (kk := ?_)
            rw [(hLo i c15).1]
            refine ww_goto C (tgt := 62) dX7_cryOf_58 (by decide) ?_
            exact jn62 _ (by rw [if_pos c48])
        refine ww_cS2v C (c_mhas g n w (s := s) (i := i) (by omega) (by omega)) kS_X7_153 ⟨Nat.le_of_ble_eq_true rfl, Nat.le_of_ble_eq_true rfl⟩ ⟨rfl, rfl⟩ ⟨Nat.le_of_ble_eq_true rfl, Nat.le_of_ble_eq_true rfl⟩ (Nat.le_of_ble_eq_true rfl) dX7_cryOf_22 ?_
        refine ww_ifeqB C (tgt := 38) dX7_cryOf_25 (by decide) (fun c25 => ?_) (fun c25 => ?_)
        · skip
          refine ww_iconst C (v := nI 0) dX7_cryOf_38 (by decide) ?_
          exact jn39 0 (by rw [c25]; rfl)
        · skip
          refine ww_aload0 C dX7_cryOf_28 ?_
          refine ww_getf C fl_X7_67 hM.1 rfl dX7_cryOf_29 ?_
          refine ww_iload4 C dX7_cryOf_32 ?_
          refine ww_ialdN C hM.a19 (by omega) dX7_cryOf_34 (kk := ?_)
          rw [(hBe i c15).1]
          refine ww_goto C (tgt := 39) dX7_cryOf_35 (by decide) ?_
          exact jn39 _ (by rw [if_pos c25])
  exact lp7 (p + 1) 0 (by omega) (by omega)
theorem m_cry (g : Gx) (n : Nat) (w : Wd) {t : Nat → Nat} {len : Nat} {h : Hs} {a : Ms} {kn : Nat} {k1 k2 : Ms} (hMR : MR w t len h a kn k1 k2) (hB : Bd h a) (hBk : Bk kn k1 k2) (s : Int32) : CT g yX7_cry cX7_cry 2 (some .int) rm_X7_cry n n w [.ref 59, .int s] (Rq (.int (V_cry h a s)) (fun w1 => MR w1 t len h a kn k1 k2 ∧ fr w w1 59 83)) := by
  obtain ⟨A, pl, hM, hRl⟩ := id hMR
  have hf : fr w w 59 83 := fr.rf
  obtain ⟨⟨hp1, hp8⟩, ⟨hb1, hb12, hv20, hmi9⟩, hK3, hM10, hS5, hM1, hX99, hR9, hwo5, hsh1, hbe9, hhd9, hhn12⟩ := id hB
  obtain ⟨hln, hkn2, htx, hRH, hRN, hRE, hk1r, hk2r⟩ := id hRl
  obtain ⟨rp, rX, rw_, rb, rv, rm_⟩ := id hRH
  refine CT.start [some (.ref 59), some (.int s)] (by decide +kernel) rfl (Nat.le_of_ble_eq_true rfl) (fun x C hnm => ?_)
  refine ww_aload0 C dX7_cry_0 ?_
  refine ww_iload1 C dX7_cry_1 ?_
  refine ww_cV1v C hM.1 rfl (m_isSet g n w hM _ rp hp8) kV_X7_156 ⟨Nat.le_of_ble_eq_true rfl, Nat.le_of_ble_eq_true rfl⟩ ⟨rfl, rfl⟩ ⟨Nat.le_of_ble_eq_true rfl, Nat.le_of_ble_eq_true rfl⟩ (Nat.le_of_ble_eq_true rfl) dX7_cry_2 ?_
  refine ww_ifneB C (tgt := 10) dX7_cry_5 (by decide) (fun c5 => ?_) (fun c5 => ?_)
  · skip
    obtain ⟨q, hq1, hqm, rfl⟩ := stB_of c5
    have h256 := p256 hp8
    have hcq : (nI q).toNatClampNeg = q := cl_nI (by omega)
    refine ww_aload0 C dX7_cry_10 ?_
    refine ww_cV00q C hM.1 rfl (m_sayNow g n w hM hRl hB hBk) kV_X7_145 ⟨Nat.le_of_ble_eq_true rfl, Nat.le_of_ble_eq_true rfl⟩ ⟨rfl, rfl⟩ ⟨Nat.le_of_ble_eq_true rfl, Nat.le_of_ble_eq_true rfl⟩ (Nat.le_of_ble_eq_true rfl) dX7_cry_11 (fun w1 hw1 => ?_)
    obtain ⟨B, hM, hf1, hBo, hRl, hSd⟩ := hw1
    have hf := hf.tr hf1
    refine ww_aload0 C dX7_cry_14 ?_
    refine ww_iload1 C dX7_cry_15 ?_
    refine ww_cV1v C hM.1 rfl (m_cryOf g n w1 hM (s := q) (Lo := longN a.1 a.2.1) (Be := beatN a.1 a.2.1 a.2.2.1 h.2.2.2.2.2.2.2.2.1) ((congrFun (hBo 1 (by decide) (by decide) (by decide)) 0).trans rp) hp8 ((congrFun (hBo 10 (by decide) (by decide) (by decide)) 0).trans rb) (And.intro hb1 hb12) ((congrFun (hBo 10 (by decide) (by decide) (by decide)) 1).trans rv) (by omega) (fun i hi => ⟨(hSd i hi).1, longN_le (hM10 i)⟩) (fun i hi => ⟨(hSd i hi).2.1, beatN_le hM10 hbe9 i⟩)) kV_X7_159 ⟨Nat.le_of_ble_eq_true rfl, Nat.le_of_ble_eq_true rfl⟩ ⟨rfl, rfl⟩ ⟨Nat.le_of_ble_eq_true rfl, Nat.le_of_ble_eq_true rfl⟩ (Nat.le_of_ble_eq_true rfl) dX7_cry_16 ?_
    exact ww_riq C dX7_cry_19 rfl ⟨Nat.le_of_ble_eq_true rfl, Nat.le_of_ble_eq_true rfl⟩ (by unfold V_cry; rw [if_pos c5, hcq]) ⟨⟨B, pl, hM, hRl⟩, hf⟩
  · skip
    refine ww_iconst C (v := -1) dX7_cry_8 (by decide) ?_
    exact ww_riq C dX7_cry_9 rfl ⟨Nat.le_of_ble_eq_true rfl, Nat.le_of_ble_eq_true rfl⟩ (by unfold V_cry; rw [if_neg (by rw [c5]; decide)]) ⟨hMR, fr.rf⟩
