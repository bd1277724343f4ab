theorem gM_1 {M : Nat → Nat} {j p : Nat} (h : ∀ i, i < p → 1 ≤ M i) : ∀ i, i < p → 1 ≤ gM M j i := by
  intro i hi
  have := h i hi
  unfold gM
  split
  · by_cases c : i = j
    · rw [c, va_upd_self]; omega
    · rw [va_upd_ne _ _ c]; omega
  · omega
theorem gS_5 {M S : Nat → Nat} {j s : Nat} (h : ∀ i, S i ≤ 5) (hs : s ≤ 5) : ∀ i, gS M S j s i ≤ 5 := by
  intro i
  unfold gS
  split
  · exact up_le h hs i
  · exact h i
theorem ap_M {A : Nat → Nat → Nat} {p j : Nat} {K M S : Nat → Nat} (h : RN A 0 p K M S) (hm : M j < 10) (h10 : ∀ i, M i ≤ 10) (h1 : ∀ i, i < p → 1 ≤ M i) : ∀ i, i < p → A 12 (8 * 0 + i) + (if some j = some i then 1 else 0) = gM M j i ∧ 1 ≤ gM M j i ∧ gM M j i ≤ 10 := by
  intro i hi
  refine ⟨?_, gM_1 h1 i hi, gM_le h10 i⟩
  rw [(h i hi).2.1]
  unfold gM
  rw [if_pos hm]
  by_cases c : j = i
  · rw [if_pos (by rw [c]), c, va_upd_self]
  · rw [if_neg (fun e => c (Option.some.inj e)), va_upd_ne _ _ (fun e => c e.symm)]; rfl
theorem ap_S {A : Nat → Nat → Nat} {p j s : Nat} {K M S : Nat → Nat} (h : RN A 0 p K M S) (hm : M j < 10) (h10 : ∀ i, M i ≤ 10) (h5 : ∀ i, S i ≤ 5) (hs : s ≤ 5) : ∀ i, i < p → ∀ q, q < gM M j i → gS M S j s (10 * i + q) ≤ 5 ∧ ((some j = some i ∧ q = gM M j i - 1 ∧ nI s = nI (gS M S j s (10 * i + q))) ∨ (¬ (some j = some i ∧ q = gM M j i - 1) ∧ A 13 (10 * (8 * 0 + i) + q) = gS M S j s (10 * i + q))) := by
  intro i hi q hq
  refine ⟨gS_5 h5 hs _, ?_⟩
  unfold gM gS at *
  rw [if_pos hm] at hq ⊢
  rw [if_pos hm]
  by_cases c : j = i
  · subst c
    rw [va_upd_self] at hq ⊢
    by_cases c2 : q = M j
    · exact Or.inl ⟨rfl, by omega, by rw [c2, va_upd_self]⟩
    · refine Or.inr ⟨fun e => by have := e.2; omega, ?_⟩
      rw [va_upd_ne _ _ (by omega)]
      exact (h j hi).2.2 q (by omega)
  · rw [va_upd_ne _ _ (fun e => c e.symm)] at hq
    refine Or.inr ⟨fun e => c (Option.some.inj e.1), ?_⟩
    by_cases c2 : 10 * i + q = 10 * j + M j
    · exfalso
      have := h10 i
      omega
    · rw [va_upd_ne _ _ c2]
      exact (h i hi).2.2 q hq
theorem m_apart (g : Gx) (n : Nat) (w : Wd) {t : Nat → Nat} {len : Nat} {h : Hs} {a : Ms} {kn : Nat} {k1 k2 : Ms} (hMR : MR w t len h a kn k1 k2) (hB : Bd h a) (hBk : Bk kn k1 k2) (i s what : Int32) : CT g yX7_apart cX7_apart 8 (some .int) rm_X7_apart n n w [.ref 59, .int i, .int s, .int what] (Rq (.int (V_apart h a i s what)) (fun w1 => MR w1 t len h a kn k1 k2 ∧ fr w w1 59 83)) := by
  obtain ⟨A, pl, hM, hRl⟩ := id hMR
  have hf : fr w w 59 83 := fr.rf
  obtain ⟨⟨hp1, hp8⟩, ⟨hb1, hb12, hv20, hmi9⟩, hK3, hM10, hS5, hM1, hX99, hR9, hwo5, hsh1, hbe9, hhd9, hhn12⟩ := id hB
  obtain ⟨hln, hkn2, htx, hRH, hRN, hRE, hk1r, hk2r⟩ := id hRl
  obtain ⟨rp, rX, rw_, rb, rv, rm_⟩ := id hRH
  refine CT.start [some (.ref 59), some (.int i), some (.int s), some (.int what), none, none, none, none] (by decide +kernel) rfl (Nat.le_of_ble_eq_true rfl) (fun x C hnm => ?_)
  refine ww_aload0 C dX7_apart_0 ?_
  refine ww_iload1 C dX7_apart_1 ?_
  refine ww_cV1v C hM.1 rfl (m_isPerson g n w hM _ rp hp8) kV_X7_139 ⟨Nat.le_of_ble_eq_true rfl, Nat.le_of_ble_eq_true rfl⟩ ⟨rfl, rfl⟩ ⟨Nat.le_of_ble_eq_true rfl, Nat.le_of_ble_eq_true rfl⟩ (Nat.le_of_ble_eq_true rfl) dX7_apart_2 ?_
  refine ww_ifeqB C (tgt := 34) dX7_apart_5 (by decide) (fun c5 => ?_) (fun c5 => ?_)
  · skip
    refine ww_iconst C (v := -1) dX7_apart_34 (by decide) ?_
    exact ww_riq C dX7_apart_35 rfl ⟨Nat.le_of_ble_eq_true rfl, Nat.le_of_ble_eq_true rfl⟩ (by unfold V_apart; rw [if_neg (fun e => by rw [of_hb hp8 e.1 e.2.1] at c5; cases c5)]) ⟨hMR, fr.rf⟩
  · skip
    obtain ⟨j, hj, rfl⟩ := hb_of c5
    have hcj : (nI j).toNatClampNeg = j := cl_nI (by omega)
    refine ww_aload0 C dX7_apart_8 ?_
    refine ww_iload2 C dX7_apart_9 ?_
    refine ww_cV1v C hM.1 rfl (m_isSet g n w hM _ rp hp8) kV_X7_156 ⟨Nat.le_of_ble_eq_true rfl, Nat.le_of_ble_eq_true rfl⟩ ⟨rfl, rfl⟩ ⟨Nat.le_of_ble_eq_true rfl, Nat.le_of_ble_eq_true rfl⟩ (Nat.le_of_ble_eq_true rfl) dX7_apart_10 ?_
    refine ww_ifeqB C (tgt := 34) dX7_apart_13 (by decide) (fun c13 => ?_) (fun c13 => ?_)
    · skip
      refine ww_iconst C (v := -1) dX7_apart_34 (by decide) ?_
      exact ww_riq C dX7_apart_35 rfl ⟨Nat.le_of_ble_eq_true rfl, Nat.le_of_ble_eq_true rfl⟩ (by unfold V_apart; rw [if_neg (fun e => by rw [c13] at e; cases e.1)]) ⟨hMR, fr.rf⟩
    · skip
      obtain ⟨q, hq1, hqm, rfl⟩ := stB_of c13
      have h256 := p256 hp8
      have hcq : (nI q).toNatClampNeg = q := cl_nI (by omega)
      refine ww_iload2 C dX7_apart_16 ?_
      refine ww_iload1 C dX7_apart_17 ?_
      refine ww_cS2v C (c_mhas g n w (s := q) (i := j) (by omega) (by omega)) kS_X7_153 ⟨Nat.le_of_ble_eq_true rfl, Nat.le_of_ble_eq_true rfl⟩ ⟨rfl, rfl⟩ ⟨Nat.le_of_ble_eq_true rfl, Nat.le_of_ble_eq_true rfl⟩ (Nat.le_of_ble_eq_true rfl) dX7_apart_18 ?_
      refine ww_ifeqB C (tgt := 34) dX7_apart_21 (by decide) (fun c21 => ?_) (fun c21 => ?_)
      · skip
        refine ww_iconst C (v := -1) dX7_apart_34 (by decide) ?_
        exact ww_riq C dX7_apart_35 rfl ⟨Nat.le_of_ble_eq_true rfl, Nat.le_of_ble_eq_true rfl⟩ (by unfold V_apart; rw [hcq, if_neg (fun e => by have e2 := e.2.1; rw [ofB_N (by omega), c21] at e2; cases e2)]) ⟨hMR, fr.rf⟩
      · skip
        refine ww_iload3 C dX7_apart_24 ?_
        refine ww_i2l C dX7_apart_25 ?_
        refine ww_lconst C (v := lN 0) dX7_apart_26 (by decide) ?_
        refine ww_lconst C (v := lN 1) dX7_apart_27 (by decide) ?_
        refine ww_cS3v C (c_inR g n w _ _ _) kS_X7_88 ⟨Nat.le_of_ble_eq_true rfl, Nat.le_of_ble_eq_true rfl⟩ ⟨rfl, rfl⟩ ⟨Nat.le_of_ble_eq_true rfl, Nat.le_of_ble_eq_true rfl⟩ (Nat.le_of_ble_eq_true rfl) dX7_apart_28 ?_
        refine ww_topi (show bz _ = bz (wb (nI 0) (nI 1) what) by rw [in_W (by decide) (by decide)]) ?_
        refine ww_ifneB C (tgt := 36) dX7_apart_31 (by decide) (fun c31 => ?_) (fun c31 => ?_)
        · skip
          obtain ⟨y, hy0, hy1, rfl⟩ := wb_of (by decide) (by decide) c31
          refine ww_aload0 C dX7_apart_36 ?_
          refine ww_getf C fl_X7_46 hM.1 rfl dX7_apart_37 ?_
          refine ww_iload1 C dX7_apart_40 ?_
          refine ww_ialdN C hM.a12 (by omega) dX7_apart_41 (kk := ?_)
          rw [show A 12 j = a.2.1 j by (have := (hRN j hj).2.1; rw [show 8 * 0 + j = j by omega] at this; exact this)]
          refine ww_bipush C (v := nI 10) dX7_apart_42 (by decide) ?_
          refine ww_icmpneN C (by have := hM10 j; omega) (tgt := 50) dX7_apart_44 (by decide) (fun c44 => ?_) (fun c44 => ?_)
          · skip
            have cm : a.2.1 j < 10 := by have := hM10 j; omega
            have hapb : ∀ s v, (apS a.1 a.2.1 a.2.2.1 h.2.2.2.1 q j) s = some v → v ≤ 160 := fun s v e => Nat.le_trans (soN_le (c := 20) (fun i v h => (shortN_le (fun i => gM_le hM10 i) h).2) _ _ e) (by omega)
            refine ww_bipush C (v := -4) dX7_apart_50 (by decide) ?_
            refine ww_istore4 C dX7_apart_52 (by decide) rfl ?_
            refine ww_iconst C (v := nI 0) dX7_apart_54 (by decide) ?_
            refine ww_istore5 C dX7_apart_55 (by decide) rfl ?_
            refine ww_iconst C (v := nI 0) dX7_apart_57 (by decide) ?_
            refine ww_istore6 C dX7_apart_58 (by decide) rfl ?_
            have lp60 : ∀ (m : Nat) (s9 : Nat) (o : Option (Nat × Nat)) (B : Nat → Nat → Nat) (u : Wd) (z7 : Option Value), s9 ≤ 6 → 6 < s9 + m → o = apN (apS a.1 a.2.1 a.2.2.1 h.2.2.2.1 q j) s9 → Sm B A → MO u B len pl kn → fr w u 59 83 → WW g x 8 0 0 n u 60 [some (.ref 59), some (.int (nI j)), some (.int (nI q)), some (.int (nI y)), some (.int (oI (o.map Prod.fst))), some (.int (nI ((o.map Prod.snd).getD 0))), some (.int (nI s9)), z7] [] := by
              intro m
              induction m with
              | zero =>
                intro s9 o B u z7 hs9 hm ho hSm hM hf
                exact absurd hm (by omega)
              | succ m ih60 =>
                intro s9 o B u z7 hs9 hm ho hSm hM hf
                have hRN2 : RN B 0 h.2.2.2.1 a.1 a.2.1 a.2.2.1 := hRN.sm hSm hp8 hM10 (Or.inl rfl)
                refine ww_iload6 C dX7_apart_60 ?_
                refine ww_bipush C (v := nI 6) dX7_apart_62 (by decide) ?_
                refine ww_icmpgeN C (by omega) (tgt := 114) dX7_apart_64 (by decide) (fun c64 => ?_) (fun c64 => ?_)
                · skip
                  have e : s9 = 6 := by omega
                  subst e
                  refine ww_iload4 C dX7_apart_114 ?_
                  rcases qo : o with _ | r9
                  · skip
                    refine ww_ifge C (tgt := 124) dX7_apart_116 (by decide) (fun c116 => ?_) (fun c116 => ?_)
                    · skip
                      exact absurd c116 (by decide)
                    · skip
                      refine ww_bipush C (v := -4) dX7_apart_119 (by decide) ?_
                      refine ww_goto C (tgt := 135) dX7_apart_121 (by decide) ?_
                      exact ww_riq C dX7_apart_135 rfl ⟨Nat.le_of_ble_eq_true rfl, Nat.le_of_ble_eq_true rfl⟩ (by unfold V_apart; rw [hcq, hcj, if_pos ⟨c13, (by rw [ofB_N (by omega)]; exact c21), c31⟩, if_pos cm, ← ho, qo]; try (split <;> rfl)) ⟨⟨B, pl, hM, hRl.sm hB hBk hSm⟩, hf⟩
                  · skip
                    have hr9 := apN_le hapb 6 r9 (ho.symm.trans qo)
                    refine ww_topi (show oI ((some r9).map Prod.fst) = nI r9.1 from rfl) ?_
                    refine ww_ifge C (tgt := 124) dX7_apart_116 (by decide) (fun c116 => ?_) (fun c116 => ?_)
                    · skip
                      refine ww_iload3 C dX7_apart_124 ?_
                      refine ww_ifneN C (by omega) (tgt := 133) dX7_apart_125 (by decide) (fun c125 => ?_) (fun c125 => ?_)
                      · skip
                        refine ww_iload5 C dX7_apart_133 ?_
                        exact ww_riq C dX7_apart_135 rfl ⟨Nat.le_of_ble_eq_true rfl, Nat.le_of_ble_eq_true rfl⟩ (by unfold V_apart; rw [hcq, hcj, if_pos ⟨c13, (by rw [ofB_N (by omega)]; exact c21), c31⟩, if_pos cm, if_neg (fun e => c125 ((nI_eq (by omega) (by decide)).mp e)), ← ho, qo]; try rfl) ⟨⟨B, pl, hM, hRl.sm hB hBk hSm⟩, hf⟩
                      · skip
                        refine ww_iload4 C dX7_apart_128 ?_
                        refine ww_goto C (tgt := 135) dX7_apart_130 (by decide) ?_
                        exact ww_riq C dX7_apart_135 rfl ⟨Nat.le_of_ble_eq_true rfl, Nat.le_of_ble_eq_true rfl⟩ (by unfold V_apart; rw [hcq, hcj, if_pos ⟨c13, (by rw [ofB_N (by omega)]; exact c21), c31⟩, if_pos cm, if_pos (by rw [c125]), ← ho, qo]; try rfl) ⟨⟨B, pl, hM, hRl.sm hB hBk hSm⟩, hf⟩
                    · skip
                      exact absurd (nI_ge0 (by omega)) c116
                · skip
                  refine ww_aload0 C dX7_apart_67 ?_
                  refine ww_iconst C (v := nI 0) dX7_apart_68 (by decide) ?_
                  refine ww_iload1 C dX7_apart_69 ?_
                  refine ww_iload6 C dX7_apart_70 ?_
                  refine ww_cV30q C hM.1 rfl (m_laySaid g n u hM (hRH.sm hp8 hSm).1 hp8 (bk := 0) (by omega) (ow := some j) (mo := nI s9) (K := a.1) (M := gM a.2.1 j) (S := gS a.2.1 a.2.2.1 j s9) (be := h.2.2.2.2.2.2.2.2.1) (fun k e => by cases e; omega) (fun i hi => ⟨(hRN2 i hi).1, hK3 i⟩) (ap_M hRN2 cm hM10 hM1) (ap_S hRN2 cm hM10 hS5 (by omega)) (fun d hd => ⟨((hRH.sm hp8 hSm).2.2.1 d hd).2.2, hbe9 d⟩)) kV_X7_135 ⟨Nat.le_of_ble_eq_true rfl, Nat.le_of_ble_eq_true rfl⟩ ⟨rfl, rfl⟩ ⟨Nat.le_of_ble_eq_true rfl, Nat.le_of_ble_eq_true rfl⟩ (Nat.le_of_ble_eq_true rfl) dX7_apart_72 (fun w1 hw1 => ?_)
                  obtain ⟨D, hM, hf1, hDo, hSd⟩ := hw1
                  have hf := hf.tr hf1
                  have hSm2 : Sm D A := hSm.tr (Sm.all (fun b hb => hDo b (by omega) (by omega) (by omega)))
                  have hRN3 : RN D 0 h.2.2.2.1 a.1 a.2.1 a.2.2.1 := hRN.sm hSm2 hp8 hM10 (Or.inl rfl)
                  refine ww_aload0 C dX7_apart_75 ?_
                  refine ww_iconst C (v := nI 0) dX7_apart_76 (by decide) ?_
                  refine ww_iload2 C dX7_apart_77 ?_
                  refine ww_cV2v C hM.1 rfl (m_allShortOf g n w1 hM (hRH.sm hp8 hSm2).1 hp8 hSd (fun i => gM_le hM10 i) (bk := 0) (s := q) (by omega) (by omega) (fun i hi => ⟨(hRN3 i hi).1, hK3 i⟩) (gM_1 hM1) (gS_5 hS5 (by omega))) kV_X7_202 ⟨Nat.le_of_ble_eq_true rfl, Nat.le_of_ble_eq_true rfl⟩ ⟨rfl, rfl⟩ ⟨Nat.le_of_ble_eq_true rfl, Nat.le_of_ble_eq_true rfl⟩ (Nat.le_of_ble_eq_true rfl) dX7_apart_78 ?_
                  rw [show soN (shortN a.1 (gM a.2.1 j) (gS a.2.1 a.2.2.1 j s9) h.2.2.2.1 q) (tb q) h.2.2.2.1 = (apS a.1 a.2.1 a.2.2.1 h.2.2.2.1 q j) s9 from rfl]
                  refine ww_istore7 C dX7_apart_81 (by decide) rfl ?_
                  refine ww_iload7 C dX7_apart_83 ?_
                  rcases qs : (apS a.1 a.2.1 a.2.2.1 h.2.2.2.1 q j) s9 with _ | v9
                  · skip
                    refine ww_iflt C (tgt := 108) dX7_apart_85 (by decide) (fun c85 => ?_) (fun c85 => ?_)
                    · skip
                      refine ww_iincN6 C dX7_apart_108 (by decide) rfl ?_
                      refine ww_goto C (tgt := 60) dX7_apart_111 (by decide) ?_
                      exact ih60 (s9 + 1) o D _ _ (by omega) (by omega) (by rw [apN_n qs]; exact ho) hSm2 hM hf
                    · skip
                      exact absurd (by decide) c85
                  · skip
                    have hv9 := hapb s9 v9 qs
                    refine ww_topi (show oI (some v9) = nI v9 from rfl) ?_
                    refine ww_iflt C (tgt := 108) dX7_apart_85 (by decide) (fun c85 => ?_) (fun c85 => ?_)
                    · skip
                      exact absurd c85 (nI_pos (by omega))
                    · skip
                      refine ww_iload4 C dX7_apart_88 ?_
                      rcases qo : o with _ | r9
                      · skip
                        refine ww_iflt C (tgt := 100) dX7_apart_90 (by decide) (fun c90 => ?_) (fun c90 => ?_)
                        · skip
                          refine ww_iload6 C dX7_apart_100 ?_
                          refine ww_istore4 C dX7_apart_102 (by decide) rfl ?_
                          refine ww_iload7 C dX7_apart_104 ?_
                          refine ww_topi (show oI (some v9) = nI v9 from rfl) ?_
                          refine ww_istore5 C dX7_apart_106 (by decide) rfl ?_
                          refine ww_iincN6 C dX7_apart_108 (by decide) rfl ?_
                          refine ww_goto C (tgt := 60) dX7_apart_111 (by decide) ?_
                          exact ih60 (s9 + 1) (some (s9, v9)) D _ _ (by omega) (by omega) (apN_1 qs (ho.symm.trans qo)).symm hSm2 hM hf
                        · skip
                          exact absurd (by decide) c90
                      · skip
                        have hr9 := apN_le hapb s9 r9 (ho.symm.trans qo)
                        refine ww_topi (show oI ((some r9).map Prod.fst) = nI r9.1 from rfl) ?_
                        refine ww_iflt C (tgt := 100) dX7_apart_90 (by decide) (fun c90 => ?_) (fun c90 => ?_)
                        · skip
                          exact absurd c90 (nI_pos (by omega))
                        · skip
                          refine ww_iload7 C dX7_apart_93 ?_
                          refine ww_topi (show oI (some v9) = nI v9 from rfl) ?_
                          refine ww_iload5 C dX7_apart_95 ?_
                          refine ww_topi (show nI (((some r9).map Prod.snd).getD 0) = nI r9.2 from rfl) ?_
                          refine ww_icmpgeN C (by omega) (tgt := 108) dX7_apart_97 (by decide) (fun c97 => ?_) (fun c97 => ?_)
                          · skip
                            refine ww_iincN6 C dX7_apart_108 (by decide) rfl ?_
                            refine ww_goto C (tgt := 60) dX7_apart_111 (by decide) ?_
                            exact ih60 (s9 + 1) (some r9) D _ _ (by omega) (by omega) (by rw [apN_2 qs (ho.symm.trans qo), if_neg (by omega)]) hSm2 hM hf
                          · skip
                            refine ww_iload6 C dX7_apart_100 ?_
                            refine ww_istore4 C dX7_apart_102 (by decide) rfl ?_
                            refine ww_iload7 C dX7_apart_104 ?_
                            refine ww_topi (show oI (some v9) = nI v9 from rfl) ?_
                            refine ww_istore5 C dX7_apart_106 (by decide) rfl ?_
                            refine ww_iincN6 C dX7_apart_108 (by decide) rfl ?_
                            refine ww_goto C (tgt := 60) dX7_apart_111 (by decide) ?_
                            exact ih60 (s9 + 1) (some (s9, v9)) D _ _ (by omega) (by omega) (by rw [apN_2 qs (ho.symm.trans qo), if_pos c97]) hSm2 hM hf
            exact lp60 (7) 0 none A _ _ (by omega) (by omega) rfl (Sm.rf A) hM hf
          · skip
            refine ww_bipush C (v := -3) dX7_apart_47 (by decide) ?_
            exact ww_riq C dX7_apart_49 rfl ⟨Nat.le_of_ble_eq_true rfl, Nat.le_of_ble_eq_true rfl⟩ (by unfold V_apart; rw [hcq, hcj, if_pos ⟨c13, (by rw [ofB_N (by omega)]; exact c21), c31⟩, if_neg (by omega)]) ⟨hMR, fr.rf⟩
        · skip
          refine ww_iconst C (v := -1) dX7_apart_34 (by decide) ?_
          exact ww_riq C dX7_apart_35 rfl ⟨Nat.le_of_ble_eq_true rfl, Nat.le_of_ble_eq_true rfl⟩ (by unfold V_apart; rw [if_neg (fun e => by rw [c31] at e; cases e.2.2)]) ⟨hMR, fr.rf⟩
