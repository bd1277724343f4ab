/-- bounds of names: at most ten syllables, at least one of each of the first p -/
def Nb (p : Nat) (q : (Nat → Nat) × (Nat → Nat)) : Prop := (∀ j, q.1 j ≤ 10) ∧ (∀ j, j < p → 1 ≤ q.1 j) ∧ ∀ j, q.2 j ≤ 5
theorem lM_le {M : Nat → Nat} {i : Nat} (h : ∀ j, M j ≤ 10) : ∀ j, lM M i j ≤ 10 := by
  intro j
  unfold lM
  split
  · exact up_le h (by have := h i; omega) j
  · exact h j
theorem lM_1 {M : Nat → Nat} {i p : Nat} (h : ∀ j, j < p → 1 ≤ M j) : ∀ j, j < p → 1 ≤ lM M i j := by
  intro j hj
  have := h j hj
  unfold lM
  split
  · by_cases c : j = i
    · rw [c, va_upd_self]; omega
    · rw [va_upd_ne _ _ c]; exact this
  · exact this
theorem Nb.dd {p : Nat} {M S sh wo : Nat → Nat} (hw : ∀ d, wo d ≤ 5) (d i : Nat) (h : Nb p (M, S)) : Nb p (dM M sh d i, dS M S sh wo d i) := by
  obtain ⟨h1, h2, h3⟩ := h
  unfold dM dS
  by_cases c : d ≤ 5
  · rw [if_pos c, if_pos c]
    by_cases c2 : sh d = 0
    · rw [if_pos c2, if_pos c2]
      exact ⟨fun j => gM_le h1 j, gM_1 h2, gS_5 h3 (hw d)⟩
    · rw [if_neg c2, if_neg c2]
      exact ⟨lM_le h1, lM_1 h2, h3⟩
  · rw [if_neg c, if_neg c]
    exact ⟨h1, h2, h3⟩
theorem Nb.inn {p : Nat} {sh wo : Nat → Nat} (hw : ∀ d, wo d ≤ 5) (z t : Nat) {q : (Nat → Nat) × (Nat → Nat)} (h : Nb p q) : ∀ i, Nb p (inY sh wo z t q i)
  | 0 => h
  | i + 1 => Nb.dd hw _ _ (Nb.inn hw z t h i)
theorem Nb.out {p : Nat} {sh wo : Nat → Nat} (hw : ∀ d, wo d ≤ 5) (z : Nat) {q : (Nat → Nat) × (Nat → Nat)} (h : Nb p q) : ∀ t, Nb p (outY sh wo z p q t)
  | 0 => h
  | t + 1 => Nb.inn hw z t (Nb.out hw z h t) p
theorem Sm.cp {B A : Nat → Nat → Nat} {ca : Nat} (e : Cp B A ca 1) : Sm B A := by
  obtain ⟨e1, e2, e3, e4, e5⟩ := e
  exact ⟨e1 0 (by decide) (by decide) (by decide), congrFun (e1 1 (by decide) (by decide) (by decide)) 0, fun i _ => ⟨congrFun (e1 5 (by decide) (by decide) (by decide)) i, congrFun (e1 6 (by decide) (by decide) (by decide)) i⟩, fun i _ => ⟨congrFun (e1 7 (by decide) (by decide) (by decide)) i, congrFun (e1 8 (by decide) (by decide) (by decide)) i, congrFun (e1 9 (by decide) (by decide) (by decide)) i⟩, fun i _ => congrFun (e1 10 (by decide) (by decide) (by decide)) i, fun j hj => e3 j (by omega), fun j hj => e5 j (by omega), e1 14 (by decide) (by decide) (by decide), e1 15 (by decide) (by decide) (by decide)⟩
theorem Sm.dd {B A : Nat → Nat → Nat} {i : Nat} (hi : i < 8) (e : Dd B A (8 * 1 + i)) : Sm B A := by
  obtain ⟨e1, e2, e3⟩ := e
  exact ⟨e1 0 (by decide) (by decide), congrFun (e1 1 (by decide) (by decide)) 0, fun i _ => ⟨congrFun (e1 5 (by decide) (by decide)) i, congrFun (e1 6 (by decide) (by decide)) i⟩, fun i _ => ⟨congrFun (e1 7 (by decide) (by decide)) i, congrFun (e1 8 (by decide) (by decide)) i, congrFun (e1 9 (by decide) (by decide)) i⟩, fun i _ => congrFun (e1 10 (by decide) (by decide)) i, fun j hj => ⟨congrFun (e1 11 (by decide) (by decide)) j, e2 j (by omega)⟩, fun j hj => e3 j (by omega), e1 14 (by decide) (by decide), e1 15 (by decide) (by decide)⟩
theorem m_goYears (g : Gx) (n : Nat) (w : Wd) {t : Nat → Nat} {len pl : Nat} {h : Hs} {a : Ms} {kn : Nat} {k1 k2 : Ms} {A : Nat → Nat → Nat} (hM : MO w A len pl kn) (hRl : Rl A t len h a kn k1 k2) (hB : Bd h a) (hBk : Bk kn k1 k2) {z y : Nat} (hz : z ≤ 9999) (hy : y ≤ 60) : CT g yX7_goYears cX7_goYears 8 none rm_X7_goYears n n w [.ref 59, .int (nI z), .int (nI y)] (R0q (fun w1 => ∃ D, MO w1 D len pl kn ∧ fr w w1 59 83 ∧ Sm D A ∧ RN D 1 h.2.2.2.1 a.1 (Y_ h a z y).1 (Y_ h a z y).2)) := by
  have hf : fr w w 59 83 := fr.rf
  obtain ⟨⟨hp1, hp8⟩, ⟨hb1, hb12, hv20, hmi9⟩, hK3, hM10, hS5, hM1, hX99, hR9, hwo5, hsh1, hbe9, hhd9, hhn12⟩ := id hB
  obtain ⟨hln, hkn2, htx, hRH, hRN, hRE, hk1r, hk2r⟩ := id hRl
  obtain ⟨rp, rX, rw_, rb, rv, rm_⟩ := id hRH
  have hNb0 : Nb h.2.2.2.1 (a.2.1, a.2.2.1) := ⟨hM10, hM1, hS5⟩
  refine CT.start [some (.ref 59), some (.int (nI z)), some (.int (nI y)), none, none, none, none, none] (by decide +kernel) rfl (Nat.le_of_ble_eq_true rfl) (fun x C hnm => ?_)
  refine ww_aload0 C dX7_goYears_0 ?_
  refine ww_iconst C (v := nI 0) dX7_goYears_1 (by decide) ?_
  refine ww_iconst C (v := nI 1) dX7_goYears_2 (by decide) ?_
  refine ww_cV20q C hM.1 rfl (m_copy g n w hM (ca := 0) (cb := 1) (by omega) (by omega) (by omega)) kV_X7_213 ⟨Nat.le_of_ble_eq_true rfl, Nat.le_of_ble_eq_true rfl⟩ ⟨rfl, rfl⟩ ⟨Nat.le_of_ble_eq_true rfl, Nat.le_of_ble_eq_true rfl⟩ (Nat.le_of_ble_eq_true rfl) dX7_goYears_3 (fun w1 hw1 => ?_)
  obtain ⟨B, hM, hf1, hCp⟩ := hw1
  have hf := hf.tr hf1
  refine ww_iconst C (v := nI 0) dX7_goYears_6 (by decide) ?_
  refine ww_istore3 C dX7_goYears_7 (by decide) rfl ?_
  have lp8 : ∀ (m : Nat) (t : Nat) (D : Nat → Nat → Nat) (u : Wd) (z4 z5 z7 : Option Value), t ≤ y → y < t + m → Sm D A → RN D 1 h.2.2.2.1 a.1 (outY h.2.2.2.2.2.2.2.1 h.2.2.2.2.2.2.1 z h.2.2.2.1 (a.2.1, a.2.2.1) t).1 (outY h.2.2.2.2.2.2.2.1 h.2.2.2.2.2.2.1 z h.2.2.2.1 (a.2.1, a.2.2.1) t).2 → MO u D len pl kn → fr w u 59 83 → WW g x 8 0 0 n u 8 [some (.ref 59), some (.int (nI z)), some (.int (nI y)), some (.int (nI t)), z4, z5, none, z7] [] := by
    intro m
    induction m with
    | zero =>
      intro t D u z4 z5 z7 ht0 hm hSm hRY hM hf
      exact absurd hm (by omega)
    | succ m ih8 =>
      intro t D u z4 z5 z7 ht0 hm hSm hRY hM hf
      have hNb : Nb h.2.2.2.1 (outY h.2.2.2.2.2.2.2.1 h.2.2.2.2.2.2.1 z h.2.2.2.1 (a.2.1, a.2.2.1) t) := Nb.out hwo5 z hNb0 t
      refine ww_iload3 C dX7_goYears_8 ?_
      refine ww_iload2 C dX7_goYears_9 ?_
      refine ww_icmpgeN C (by omega) (tgt := 99) dX7_goYears_10 (by decide) (fun c10 => ?_) (fun c10 => ?_)
      · skip
        exact ww_rvq C dX7_goYears_99 rfl ⟨Nat.le_of_ble_eq_true rfl, Nat.le_of_ble_eq_true rfl⟩ ⟨D, hM, hf, hSm, by have et : t = y := (by omega); rw [et] at hRY; exact hRY⟩
      · skip
        refine ww_iconst C (v := nI 0) dX7_goYears_13 (by decide) ?_
        refine ww_istore4 C dX7_goYears_14 (by decide) rfl ?_
        have lp16 : ∀ (m : Nat) (i : Nat) (D : Nat → Nat → Nat) (u : Wd) (z5 z7 : Option Value), i ≤ h.2.2.2.1 → h.2.2.2.1 < i + m → Sm D A → RN D 1 h.2.2.2.1 a.1 (inY h.2.2.2.2.2.2.2.1 h.2.2.2.2.2.2.1 z t (outY h.2.2.2.2.2.2.2.1 h.2.2.2.2.2.2.1 z h.2.2.2.1 (a.2.1, a.2.2.1) t) i).1 (inY h.2.2.2.2.2.2.2.1 h.2.2.2.2.2.2.1 z t (outY h.2.2.2.2.2.2.2.1 h.2.2.2.2.2.2.1 z h.2.2.2.1 (a.2.1, a.2.2.1) t) i).2 → MO u D len pl kn → fr w u 59 83 → WW g x 8 0 0 n u 16 [some (.ref 59), some (.int (nI z)), some (.int (nI y)), some (.int (nI t)), some (.int (nI i)), z5, none, z7] [] := by
          intro m
          induction m with
          | zero =>
            intro i D u z5 z7 hi0 hm hSm hRY hM hf
            exact absurd hm (by omega)
          | succ m ih16 =>
            intro i D u z5 z7 hi0 hm hSm hRY hM hf
            refine ww_iload4 C dX7_goYears_16 ?_
            refine ww_aload0 C dX7_goYears_18 ?_
            refine ww_getf C fl_X7_13 hM.1 rfl dX7_goYears_19 ?_
            refine ww_iconst C (v := nI 0) dX7_goYears_22 (by decide) ?_
            refine ww_ialdN C hM.a1 (by decide) dX7_goYears_23 (kk := ?_)
            rw [(hRH.sm hp8 hSm).1]
            refine ww_icmpgeN C (by omega) (tgt := 93) dX7_goYears_24 (by decide) (fun c24 => ?_) (fun c24 => ?_)
            · skip
              have ei : i = h.2.2.2.1 := by omega
              rw [ei] at hRY
              refine ww_iincN3 C dX7_goYears_93 (by decide) rfl ?_
              refine ww_goto C (tgt := 8) dX7_goYears_96 (by decide) ?_
              exact ih8 (t + 1) D _ _ _ _ (by omega) (by omega) hSm hRY hM hf
            · skip
              refine ww_ldc2 C (v := 7919) kc_X7_216 dX7_goYears_27 ?_
              refine ww_topl (show (7919 : Int64) = lN 7919 by decide) ?_
              refine ww_iload1 C dX7_goYears_30 ?_
              refine ww_i2lN C (by omega) dX7_goYears_31 ?_
              refine ww_lmulN C dX7_goYears_32 ?_
              refine ww_ldc2 C (v := 6151) kc_X7_218 dX7_goYears_33 ?_
              refine ww_topl (show (6151 : Int64) = lN 6151 by decide) ?_
              refine ww_iload4 C dX7_goYears_36 ?_
              refine ww_i2lN C (by omega) dX7_goYears_38 ?_
              refine ww_lmulN C dX7_goYears_39 ?_
              refine ww_laddN C dX7_goYears_40 ?_
              refine ww_ldc2 C (v := 3571) kc_X7_220 dX7_goYears_41 ?_
              refine ww_topl (show (3571 : Int64) = lN 3571 by decide) ?_
              refine ww_iload3 C dX7_goYears_44 ?_
              refine ww_i2lN C (by omega) dX7_goYears_45 ?_
              refine ww_lmulN C dX7_goYears_46 ?_
              refine ww_laddN C dX7_goYears_47 ?_
              refine ww_lconst C (v := lN 1) dX7_goYears_48 (by decide) ?_
              refine ww_laddN C dX7_goYears_49 ?_
              refine ww_lstore5 C dX7_goYears_50 (by decide) rfl ?_
              refine ww_lload5 C dX7_goYears_52 ?_
              refine ww_lload5 C dX7_goYears_54 ?_
              refine ww_lmulN C dX7_goYears_56 ?_
              refine ww_ldc2 C (v := 65521) kc_X7_222 dX7_goYears_57 ?_
              refine ww_topl (show (65521 : Int64) = lN 65521 by decide) ?_
              refine ww_lremN C (⟨by decide, draw_sq (by omega), by decide⟩) dX7_goYears_60 ?_
              refine ww_ldc2 C (v := 12) kc_X7_123 dX7_goYears_61 ?_
              refine ww_topl (show (12 : Int64) = lN 12 by decide) ?_
              refine ww_lremN C (⟨by decide, by omega, by decide⟩) dX7_goYears_64 ?_
              rw [show (7919 * z + 6151 * i + 3571 * t + 1) * (7919 * z + 6151 * i + 3571 * t + 1) % 65521 % 12 = drawN z i t from rfl]
              refine ww_l2iN C dX7_goYears_65 ?_
              refine ww_istore7 C dX7_goYears_66 (by decide) rfl ?_
              refine ww_iload7 C dX7_goYears_68 ?_
              refine ww_bipush C (v := nI 6) dX7_goYears_70 (by decide) ?_
              refine ww_icmpgeN C (by have := drawN_lt z i t; omega) (tgt := 87) dX7_goYears_72 (by decide) (fun c72 => ?_) (fun c72 => ?_)
              · skip
                refine ww_iincN4 C dX7_goYears_87 (by decide) rfl ?_
                refine ww_goto C (tgt := 16) dX7_goYears_90 (by decide) ?_
                exact ih16 (i + 1) D _ _ _ (by omega) (by omega) hSm (by show RN D 1 h.2.2.2.1 a.1 (dM (inY h.2.2.2.2.2.2.2.1 h.2.2.2.2.2.2.1 z t (outY h.2.2.2.2.2.2.2.1 h.2.2.2.2.2.2.1 z h.2.2.2.1 (a.2.1, a.2.2.1) t) i).1 h.2.2.2.2.2.2.2.1 (drawN z i t) i) (dS (inY h.2.2.2.2.2.2.2.1 h.2.2.2.2.2.2.1 z t (outY h.2.2.2.2.2.2.2.1 h.2.2.2.2.2.2.1 z h.2.2.2.1 (a.2.1, a.2.2.1) t) i).1 (inY h.2.2.2.2.2.2.2.1 h.2.2.2.2.2.2.1 z t (outY h.2.2.2.2.2.2.2.1 h.2.2.2.2.2.2.1 z h.2.2.2.1 (a.2.1, a.2.2.1) t) i).2 h.2.2.2.2.2.2.2.1 h.2.2.2.2.2.2.1 (drawN z i t) i); unfold dM dS; rw [if_neg (by omega), if_neg (by omega)]; exact hRY) hM hf
              · skip
                refine ww_aload0 C dX7_goYears_75 ?_
                refine ww_bipush C (v := nI 8) dX7_goYears_76 (by decide) ?_
                refine ww_iload4 C dX7_goYears_78 ?_
                refine ww_iaddN C dX7_goYears_80 ?_
                refine ww_iload7 C dX7_goYears_81 ?_
                rw [show 8 + i = 8 * 1 + i by omega]
                refine ww_cV2vq C hM.1 rfl (m_doDeed g n u hM (bk := 1) (i := i) (d := drawN z i t) (sh := h.2.2.2.2.2.2.2.1) (wo := h.2.2.2.2.2.2.1) hRY (by omega) hp8 c24 (by omega) (Nb.inn hwo5 z t hNb i).1 ((hRH.sm hp8 hSm).2.2.1 _ c72).2.1 (hsh1 _) ((hRH.sm hp8 hSm).2.2.1 _ c72).1) kV_X7_150 ⟨Nat.le_of_ble_eq_true rfl, Nat.le_of_ble_eq_true rfl⟩ ⟨rfl, rfl⟩ ⟨Nat.le_of_ble_eq_true rfl, Nat.le_of_ble_eq_true rfl⟩ (Nat.le_of_ble_eq_true rfl) dX7_goYears_83 (fun w2 hw2 => ?_)
                obtain ⟨E, hM, hf2, hDd, hRE2⟩ := hw2
                have hf := hf.tr hf2
                refine ww_pop C dX7_goYears_86 rfl ?_
                refine ww_iincN4 C dX7_goYears_87 (by decide) rfl ?_
                refine ww_goto C (tgt := 16) dX7_goYears_90 (by decide) ?_
                exact ih16 (i + 1) E _ _ _ (by omega) (by omega) (hSm.tr (Sm.dd (by omega) hDd)) hRE2 hM hf
        exact lp16 (h.2.2.2.1 + 1) 0 D _ _ _ (by omega) (by omega) hSm hRY hM hf
  exact lp8 (y + 1) 0 B _ _ _ _ (by omega) (by omega) (Sm.cp hCp) (hCp.rn hp8 hM10 hRN) hM hf
theorem m_then (g : Gx) (n : Nat) (w : Wd) {t : Nat → Nat} {len : Nat} {h : Hs} {a : Ms} {kn : Nat} {k1 k2 : Ms} (hMR : MR w t len h a kn k1 k2) (hB : Bd h a) (hBk : Bk kn k1 k2) (z y i k : Int32) : CT g yX7_then cX7_then 5 (some .int) rm_X7_then n n w [.ref 59, .int z, .int y, .int i, .int k] (Rq (.int (V_then h a z y i k)) (fun w1 => MR w1 t len h a kn k1 k2 ∧ fr w w1 59 83)) := by
  obtain ⟨A, pl, hM, hRl⟩ := id hMR
  have hf : fr w w 59 83 := fr.rf
  obtain ⟨⟨hp1, hp8⟩, ⟨hb1, hb12, hv20, hmi9⟩, hK3, hM10, hS5, hM1, hX99, hR9, hwo5, hsh1, hbe9, hhd9, hhn12⟩ := id hB
  obtain ⟨hln, hkn2, htx, hRH, hRN, hRE, hk1r, hk2r⟩ := id hRl
  obtain ⟨rp, rX, rw_, rb, rv, rm_⟩ := id hRH
  refine CT.start [some (.ref 59), some (.int z), some (.int y), some (.int i), some (.int k)] (by decide +kernel) rfl (Nat.le_of_ble_eq_true rfl) (fun x C hnm => ?_)
  refine ww_iload1 C dX7_then_0 ?_
  refine ww_iload2 C dX7_then_1 ?_
  refine ww_cS2v C (m_isHill g n w _ _) kS_X7_228 ⟨Nat.le_of_ble_eq_true rfl, Nat.le_of_ble_eq_true rfl⟩ ⟨rfl, rfl⟩ ⟨Nat.le_of_ble_eq_true rfl, Nat.le_of_ble_eq_true rfl⟩ (Nat.le_of_ble_eq_true rfl) dX7_then_2 ?_
  refine ww_ifeqB C (tgt := 29) dX7_then_5 (by decide) (fun c5 => ?_) (fun c5 => ?_)
  · skip
    refine ww_iconst C (v := -1) dX7_then_29 (by decide) ?_
    exact ww_riq C dX7_then_30 rfl ⟨Nat.le_of_ble_eq_true rfl, Nat.le_of_ble_eq_true rfl⟩ (by unfold V_then; rw [if_neg (fun e => by rw [c5] at e; cases e.1)]) ⟨hMR, fr.rf⟩
  · skip
    refine ww_aload0 C dX7_then_8 ?_
    refine ww_iload3 C dX7_then_9 ?_
    refine ww_cV1v C hM.1 rfl (m_isPerson g n w hM _ rp hp8) kV_X7_139 ⟨Nat.le_of_ble_eq_true rfl, Nat.le_of_ble_eq_true rfl⟩ ⟨rfl, rfl⟩ ⟨Nat.le_of_ble_eq_true rfl, Nat.le_of_ble_eq_true rfl⟩ (Nat.le_of_ble_eq_true rfl) dX7_then_10 ?_
    refine ww_ifeqB C (tgt := 29) dX7_then_13 (by decide) (fun c13 => ?_) (fun c13 => ?_)
    · skip
      refine ww_iconst C (v := -1) dX7_then_29 (by decide) ?_
      exact ww_riq C dX7_then_30 rfl ⟨Nat.le_of_ble_eq_true rfl, Nat.le_of_ble_eq_true rfl⟩ (by unfold V_then; rw [if_neg (fun e => by rw [c13] at e; cases e.2.1)]) ⟨hMR, fr.rf⟩
    · skip
      obtain ⟨j, hj, rfl⟩ := hb_of c13
      have hcj : (nI j).toNatClampNeg = j := cl_nI (by omega)
      refine ww_iload4 C dX7_then_16 ?_
      refine ww_i2l C dX7_then_18 ?_
      refine ww_lconst C (v := lN 0) dX7_then_19 (by decide) ?_
      refine ww_ldc2 C (v := 9) kc_X7_121 dX7_then_20 ?_
      refine ww_topl (show (9 : Int64) = lN 9 by decide) ?_
      refine ww_cS3v C (c_inR g n w _ _ _) kS_X7_88 ⟨Nat.le_of_ble_eq_true rfl, Nat.le_of_ble_eq_true rfl⟩ ⟨rfl, rfl⟩ ⟨Nat.le_of_ble_eq_true rfl, Nat.le_of_ble_eq_true rfl⟩ (Nat.le_of_ble_eq_true rfl) dX7_then_23 ?_
      refine ww_topi (show bz _ = bz (wb (nI 0) (nI 9) k) by rw [in_W (by decide) (by decide)]) ?_
      refine ww_ifneB C (tgt := 31) dX7_then_26 (by decide) (fun c26 => ?_) (fun c26 => ?_)
      · skip
        obtain ⟨q, hq0, hqm, rfl⟩ := wb_of (by decide) (by decide) c26
        have hcq : (nI q).toNatClampNeg = q := cl_nI (by omega)
        obtain ⟨z1, y1, hz1, hy1, rfl, rfl, hcz, hcy⟩ := ht_of c5
        have hNb : Nb h.2.2.2.1 (Y_ h a z1 y1) := Nb.out hwo5 z1 (show Nb h.2.2.2.1 (a.2.1, a.2.2.1) from ⟨hM10, hM1, hS5⟩) y1
        refine ww_aload0 C dX7_then_31 ?_
        refine ww_iload1 C dX7_then_32 ?_
        refine ww_iload2 C dX7_then_33 ?_
        refine ww_cV20q C hM.1 rfl (m_goYears g n w hM hRl hB hBk (z := z1) (y := y1) hz1 hy1) kV_X7_233 ⟨Nat.le_of_ble_eq_true rfl, Nat.le_of_ble_eq_true rfl⟩ ⟨rfl, rfl⟩ ⟨Nat.le_of_ble_eq_true rfl, Nat.le_of_ble_eq_true rfl⟩ (Nat.le_of_ble_eq_true rfl) dX7_then_34 (fun w1 hw1 => ?_)
        obtain ⟨D, hM, hf1, hSm, hRY⟩ := hw1
        have hf := hf.tr hf1
        refine ww_iload4 C dX7_then_37 ?_
        refine ww_aload0 C dX7_then_39 ?_
        refine ww_getf C fl_X7_46 hM.1 rfl dX7_then_40 ?_
        refine ww_bipush C (v := nI 8) dX7_then_43 (by decide) ?_
        refine ww_iload3 C dX7_then_45 ?_
        refine ww_iaddN C dX7_then_46 ?_
        refine ww_ialdN C hM.a12 (by omega) dX7_then_47 (kk := ?_)
        rw [show D 12 (8 + j) = (Y_ h a z1 y1).1 j from (hRY j hj).2.1]
        refine ww_icmpgeN C (by have := hNb.1 j; omega) (tgt := 69) dX7_then_48 (by decide) (fun c48 => ?_) (fun c48 => ?_)
        · skip
          refine ww_bipush C (v := -4) dX7_then_69 (by decide) ?_
          exact ww_riq C dX7_then_71 rfl ⟨Nat.le_of_ble_eq_true rfl, Nat.le_of_ble_eq_true rfl⟩ (by unfold V_then; rw [if_pos ⟨c5, c13, c26⟩, hcz, hcy, hcj, hcq, if_neg (by omega)]) ⟨⟨D, pl, hM, hRl.sm hB hBk hSm⟩, hf⟩
        · skip
          refine ww_aload0 C dX7_then_51 ?_
          refine ww_getf C fl_X7_49 hM.1 rfl dX7_then_52 ?_
          refine ww_bipush C (v := nI 80) dX7_then_55 (by decide) ?_
          refine ww_bipush C (v := nI 10) dX7_then_57 (by decide) ?_
          refine ww_iload3 C dX7_then_59 ?_
          refine ww_imulN C dX7_then_60 ?_
          refine ww_iaddN C dX7_then_61 ?_
          refine ww_iload4 C dX7_then_62 ?_
          refine ww_iaddN C dX7_then_64 ?_
          refine ww_ialdN C hM.a13 (by omega) dX7_then_65 (kk := ?_)
          refine ww_goto C (tgt := 71) dX7_then_66 (by decide) ?_
          exact ww_riq C dX7_then_71 rfl ⟨Nat.le_of_ble_eq_true rfl, Nat.le_of_ble_eq_true rfl⟩ (by unfold V_then; rw [if_pos ⟨c5, c13, c26⟩, hcz, hcy, hcj, hcq, if_pos c48, ← (hRY j hj).2.2 q c48]; congr 2; omega) ⟨⟨D, pl, hM, hRl.sm hB hBk hSm⟩, hf⟩
      · skip
        refine ww_iconst C (v := -1) dX7_then_29 (by decide) ?_
        exact ww_riq C dX7_then_30 rfl ⟨Nat.le_of_ble_eq_true rfl, Nat.le_of_ble_eq_true rfl⟩ (by unfold V_then; rw [if_neg (fun e => by rw [c26] at e; cases e.2.2)]) ⟨hMR, fr.rf⟩
theorem nI_gt {v : Nat} (h1 : 1 ≤ v) (h : v < 2147483648) : ¬ nI v ≤ 0 := fun e => by
  have := (nI_leI (a := v) (b := 0) (by omega) (by decide)).mp e
  omega
theorem tb_all {p i : Nat} (h : i < p) : tb (2 ^ p - 1) i = true := by
  unfold tb
  rw [Nat.testBit_two_pow_sub_one, decide_eq_true h]
theorem m_years (g : Gx) (n : Nat) (w : Wd) {t : Nat → Nat} {len : Nat} {h : Hs} {a : Ms} {kn : Nat} {k1 k2 : Ms} (hMR : MR w t len h a kn k1 k2) (hB : Bd h a) (hBk : Bk kn k1 k2) (z y what : Int32) : CT g yX7_years cX7_years 8 (some .int) rm_X7_years n n w [.ref 59, .int z, .int y, .int what] (Rq (.int (V_years h a z y what)) (fun w1 => MR w1 t len h a kn k1 k2 ∧ fr w w1 59 83)) := by
  obtain ⟨A, pl, hM, hRl⟩ := id hMR
  have hf : fr w w 59 83 := fr.rf
  obtain ⟨⟨hp1, hp8⟩, ⟨hb1, hb12, hv20, hmi9⟩, hK3, hM10, hS5, hM1, hX99, hR9, hwo5, hsh1, hbe9, hhd9, hhn12⟩ := id hB
  obtain ⟨hln, hkn2, htx, hRH, hRN, hRE, hk1r, hk2r⟩ := id hRl
  obtain ⟨rp, rX, rw_, rb, rv, rm_⟩ := id hRH
  refine CT.start [some (.ref 59), some (.int z), some (.int y), some (.int what), none, none, none, none] (by decide +kernel) rfl (Nat.le_of_ble_eq_true rfl) (fun x C hnm => ?_)
  refine ww_iload1 C dX7_years_0 ?_
  refine ww_iload2 C dX7_years_1 ?_
  refine ww_cS2v C (m_isHill g n w _ _) kS_X7_228 ⟨Nat.le_of_ble_eq_true rfl, Nat.le_of_ble_eq_true rfl⟩ ⟨rfl, rfl⟩ ⟨Nat.le_of_ble_eq_true rfl, Nat.le_of_ble_eq_true rfl⟩ (Nat.le_of_ble_eq_true rfl) dX7_years_2 ?_
  refine ww_ifeqB C (tgt := 20) dX7_years_5 (by decide) (fun c5 => ?_) (fun c5 => ?_)
  · skip
    refine ww_iconst C (v := -1) dX7_years_20 (by decide) ?_
    exact ww_riq C dX7_years_21 rfl ⟨Nat.le_of_ble_eq_true rfl, Nat.le_of_ble_eq_true rfl⟩ (by unfold V_years; rw [if_neg (fun e => by rw [c5] at e; cases e.1)]) ⟨hMR, fr.rf⟩
  · skip
    refine ww_iload3 C dX7_years_8 ?_
    refine ww_i2l C dX7_years_9 ?_
    refine ww_lconst C (v := lN 0) dX7_years_10 (by decide) ?_
    refine ww_ldc2 C (v := 2) kc_X7_231 dX7_years_11 ?_
    refine ww_topl (show (2 : Int64) = lN 2 by decide) ?_
    refine ww_cS3v C (c_inR g n w _ _ _) kS_X7_88 ⟨Nat.le_of_ble_eq_true rfl, Nat.le_of_ble_eq_true rfl⟩ ⟨rfl, rfl⟩ ⟨Nat.le_of_ble_eq_true rfl, Nat.le_of_ble_eq_true rfl⟩ (Nat.le_of_ble_eq_true rfl) dX7_years_14 ?_
    refine ww_topi (show bz _ = bz (wb (nI 0) (nI 2) what) by rw [in_W (by decide) (by decide)]) ?_
    refine ww_ifneB C (tgt := 22) dX7_years_17 (by decide) (fun c17 => ?_) (fun c17 => ?_)
    · skip
      obtain ⟨q, hq0, hqm, rfl⟩ := wb_of (by decide) (by decide) c17
      obtain ⟨z1, y1, hz1, hy1, rfl, rfl, hcz, hcy⟩ := ht_of c5
      have hNb : Nb h.2.2.2.1 (Y_ h a z1 y1) := Nb.out hwo5 z1 (show Nb h.2.2.2.1 (a.2.1, a.2.2.1) from ⟨hM10, hM1, hS5⟩) y1
      have h256 := p256 hp8
      have hp2 := Nat.two_pow_pos h.2.2.2.1
      refine ww_aload0 C dX7_years_22 ?_
      refine ww_iload1 C dX7_years_23 ?_
      refine ww_iload2 C dX7_years_24 ?_
      refine ww_cV20q C hM.1 rfl (m_goYears g n w hM hRl hB hBk (z := z1) (y := y1) hz1 hy1) kV_X7_233 ⟨Nat.le_of_ble_eq_true rfl, Nat.le_of_ble_eq_true rfl⟩ ⟨rfl, rfl⟩ ⟨Nat.le_of_ble_eq_true rfl, Nat.le_of_ble_eq_true rfl⟩ (Nat.le_of_ble_eq_true rfl) dX7_years_25 (fun w1 hw1 => ?_)
      obtain ⟨D, hM, hf1, hSm, hRY⟩ := hw1
      have hf := hf.tr hf1
      refine ww_aload0 C dX7_years_28 ?_
      refine ww_iconst C (v := nI 1) dX7_years_29 (by decide) ?_
      refine ww_bipush C (v := -4) dX7_years_30 (by decide) ?_
      refine ww_bipush C (v := -4) dX7_years_32 (by decide) ?_
      refine ww_cV30q C hM.1 rfl (m_laySaid g n w1 hM (hRH.sm hp8 hSm).1 hp8 (bk := 1) (by omega) (ow := none) (mo := -4) (K := a.1) (M := (Y_ h a z1 y1).1) (S := (Y_ h a z1 y1).2) (be := h.2.2.2.2.2.2.2.2.1) (fun k e => by cases e) (fun i hi => ⟨(hRY i hi).1, hK3 i⟩) (fun i hi => ⟨by rw [if_neg (fun e => by cases e)]; exact (hRY i hi).2.1, hNb.2.1 i hi, hNb.1 i⟩) (fun i hi q hq => ⟨hNb.2.2 _, Or.inr ⟨(fun e => by cases e.1), (hRY i hi).2.2 q hq⟩⟩) (fun d hd => ⟨((hRH.sm hp8 hSm).2.2.1 d hd).2.2, hbe9 d⟩)) kV_X7_135 ⟨Nat.le_of_ble_eq_true rfl, Nat.le_of_ble_eq_true rfl⟩ ⟨rfl, rfl⟩ ⟨Nat.le_of_ble_eq_true rfl, Nat.le_of_ble_eq_true rfl⟩ (Nat.le_of_ble_eq_true rfl) dX7_years_34 (fun w2 hw2 => ?_)
      obtain ⟨E, hM, hf2, hEo, hSd⟩ := hw2
      have hf := hf.tr hf2
      have hSm2 : Sm E A := hSm.tr (Sm.all (fun b hb => hEo b (by omega) (by omega) (by omega)))
      have hRY2 : RN E 1 h.2.2.2.1 a.1 (Y_ h a z1 y1).1 (Y_ h a z1 y1).2 := hRY.eqv (hEo 11 (by decide) (by decide) (by decide)) (hEo 12 (by decide) (by decide) (by decide)) (hEo 13 (by decide) (by decide) (by decide))
      have rpE := (hRH.sm hp8 hSm2).1
      refine ww_iconst C (v := nI 1) dX7_years_37 (by decide) ?_
      refine ww_aload0 C dX7_years_38 ?_
      refine ww_getf C fl_X7_13 hM.1 rfl dX7_years_39 ?_
      refine ww_iconst C (v := nI 0) dX7_years_42 (by decide) ?_
      refine ww_ialdN C hM.a1 (by decide) dX7_years_43 (kk := ?_)
      rw [rpE]
      refine ww_shl1N C (by omega) dX7_years_44 ?_
      refine ww_iconst C (v := nI 1) dX7_years_45 (by decide) ?_
      refine ww_isubN C (by omega) dX7_years_46 ?_
      refine ww_istore4 C dX7_years_47 (by decide) rfl ?_
      refine ww_iconst C (v := nI 0) dX7_years_49 (by decide) ?_
      refine ww_istore5 C dX7_years_50 (by decide) rfl ?_
      refine ww_iconst C (v := nI 0) dX7_years_52 (by decide) ?_
      refine ww_istore6 C dX7_years_53 (by decide) rfl ?_
      refine ww_iconst C (v := nI 0) dX7_years_55 (by decide) ?_
      refine ww_istore7 C dX7_years_56 (by decide) rfl ?_
      have lp58 : ∀ (m : Nat) (i : Nat), i ≤ h.2.2.2.1 → h.2.2.2.1 < i + m → WW g x 8 0 0 n w2 58 [some (.ref 59), some (.int (nI z1)), some (.int (nI y1)), some (.int (nI q)), some (.int (nI (2 ^ h.2.2.2.1 - 1))), some (.int (nI (maxN (longN a.1 (Y_ h a z1 y1).1) i))), some (.int (nI (cnN (fun i => tb (2 ^ h.2.2.2.1 - 1) i && (shortN a.1 (Y_ h a z1 y1).1 (Y_ h a z1 y1).2 h.2.2.2.1 (2 ^ h.2.2.2.1 - 1) i).isSome) i))), some (.int (nI i))] [] := by
        intro m
        induction m with
        | zero =>
          intro i hi0 hm
          exact absurd hm (by omega)
        | succ m ih58 =>
          intro i hi0 hm
          refine ww_iload7 C dX7_years_58 ?_
          refine ww_aload0 C dX7_years_60 ?_
          refine ww_getf C fl_X7_13 hM.1 rfl dX7_years_61 ?_
          refine ww_iconst C (v := nI 0) dX7_years_64 (by decide) ?_
          refine ww_ialdN C hM.a1 (by decide) dX7_years_65 (kk := ?_)
          rw [rpE]
          refine ww_icmpgeN C (by omega) (tgt := 123) dX7_years_66 (by decide) (fun c66 => ?_) (fun c66 => ?_)
          · skip
            have ei : i = h.2.2.2.1 := by omega
            rw [ei]
            refine ww_iload3 C dX7_years_123 ?_
            refine ww_ifneN C (by omega) (tgt := 136) dX7_years_124 (by decide) (fun c124 => ?_) (fun c124 => ?_)
            · skip
              refine ww_iload3 C dX7_years_136 ?_
              refine ww_iconst C (v := nI 1) dX7_years_137 (by decide) ?_
              refine ww_icmpneN C (by omega) (tgt := 146) dX7_years_138 (by decide) (fun c138 => ?_) (fun c138 => ?_)
              · skip
                refine ww_iload6 C dX7_years_146 ?_
                exact ww_riq C dX7_years_148 rfl ⟨Nat.le_of_ble_eq_true rfl, Nat.le_of_ble_eq_true rfl⟩ (by unfold V_years; rw [if_pos ⟨c5, c17⟩, hcz, hcy, if_neg (fun e => c124 ((nI_eq (by omega) (by decide)).mp e)), if_neg (fun e => c138 ((nI_eq (by omega) (by decide)).mp e))]) ⟨⟨E, pl, hM, hRl.sm hB hBk hSm2⟩, hf⟩
              · skip
                refine ww_iload5 C dX7_years_141 ?_
                refine ww_goto C (tgt := 148) dX7_years_143 (by decide) ?_
                exact ww_riq C dX7_years_148 rfl ⟨Nat.le_of_ble_eq_true rfl, Nat.le_of_ble_eq_true rfl⟩ (by unfold V_years; rw [if_pos ⟨c5, c17⟩, hcz, hcy, if_neg (fun e => c124 ((nI_eq (by omega) (by decide)).mp e)), if_pos (by rw [c138])]) ⟨⟨E, pl, hM, hRl.sm hB hBk hSm2⟩, hf⟩
            · skip
              refine ww_aload0 C dX7_years_127 ?_
              refine ww_iload4 C dX7_years_128 ?_
              refine ww_cV1v C hM.1 rfl (m_cryOf g n w2 hM (s := 2 ^ h.2.2.2.1 - 1) (Lo := longN a.1 (Y_ h a z1 y1).1) (Be := beatN a.1 (Y_ h a z1 y1).1 (Y_ h a z1 y1).2 h.2.2.2.2.2.2.2.2.1) rpE hp8 (hRH.sm hp8 hSm2).2.2.2.1 (And.intro hb1 hb12) (hRH.sm hp8 hSm2).2.2.2.2.1 (by omega) (fun i hi => ⟨(hSd i hi).1, longN_le (hNb.1 i)⟩) (fun i hi => ⟨(hSd i hi).2.1, beatN_le hNb.1 hbe9 i⟩)) kV_X7_159 ⟨Nat.le_of_ble_eq_true rfl, Nat.le_of_ble_eq_true rfl⟩ ⟨rfl, rfl⟩ ⟨Nat.le_of_ble_eq_true rfl, Nat.le_of_ble_eq_true rfl⟩ (Nat.le_of_ble_eq_true rfl) dX7_years_130 ?_
              refine ww_goto C (tgt := 148) dX7_years_133 (by decide) ?_
              exact ww_riq C dX7_years_148 rfl ⟨Nat.le_of_ble_eq_true rfl, Nat.le_of_ble_eq_true rfl⟩ (by unfold V_years; rw [if_pos ⟨c5, c17⟩, hcz, hcy, if_pos (by rw [c124])]) ⟨⟨E, pl, hM, hRl.sm hB hBk hSm2⟩, hf⟩
          · skip
            have jn93 : ∀ (e : Nat), e = maxN (longN a.1 (Y_ h a z1 y1).1) (i + 1) → WW g x 8 0 0 n w2 93 [some (.ref 59), some (.int (nI z1)), some (.int (nI y1)), some (.int (nI q)), some (.int (nI (2 ^ h.2.2.2.1 - 1))), some (.int (nI (maxN (longN a.1 (Y_ h a z1 y1).1) i))), some (.int (nI (cnN (fun i => tb (2 ^ h.2.2.2.1 - 1) i && (shortN a.1 (Y_ h a z1 y1).1 (Y_ h a z1 y1).2 h.2.2.2.1 (2 ^ h.2.2.2.1 - 1) i).isSome) i))), some (.int (nI i))] [.int (nI e)] := by
              intro e he
              subst he
              refine ww_istore5 C dX7_years_93 (by decide) rfl ?_
              have jn114 : ∀ (e : Nat), cnN (fun i => tb (2 ^ h.2.2.2.1 - 1) i && (shortN a.1 (Y_ h a z1 y1).1 (Y_ h a z1 y1).2 h.2.2.2.1 (2 ^ h.2.2.2.1 - 1) i).isSome) i + e = cnN (fun i => tb (2 ^ h.2.2.2.1 - 1) i && (shortN a.1 (Y_ h a z1 y1).1 (Y_ h a z1 y1).2 h.2.2.2.1 (2 ^ h.2.2.2.1 - 1) i).isSome) (i + 1) → WW g x 8 0 0 n w2 114 [some (.ref 59), some (.int (nI z1)), some (.int (nI y1)), some (.int (nI q)), some (.int (nI (2 ^ h.2.2.2.1 - 1))), some (.int (nI (maxN (longN a.1 (Y_ h a z1 y1).1) (i + 1)))), some (.int (nI (cnN (fun i => tb (2 ^ h.2.2.2.1 - 1) i && (shortN a.1 (Y_ h a z1 y1).1 (Y_ h a z1 y1).2 h.2.2.2.1 (2 ^ h.2.2.2.1 - 1) i).isSome) i))), some (.int (nI i))] [.int (nI e), .int (nI (cnN (fun i => tb (2 ^ h.2.2.2.1 - 1) i && (shortN a.1 (Y_ h a z1 y1).1 (Y_ h a z1 y1).2 h.2.2.2.1 (2 ^ h.2.2.2.1 - 1) i).isSome) i))] := by
                intro e he
                refine ww_iaddN C dX7_years_114 ?_
                rw [he]
                refine ww_istore6 C dX7_years_115 (by decide) rfl ?_
                refine ww_iincN7 C dX7_years_117 (by decide) rfl ?_
                refine ww_goto C (tgt := 58) dX7_years_120 (by decide) ?_
                exact ih58 (i + 1) (by omega) (by omega)
              refine ww_iload6 C dX7_years_95 ?_
              refine ww_aload0 C dX7_years_97 ?_
              refine ww_iconst C (v := nI 1) dX7_years_98 (by decide) ?_
              refine ww_iload7 C dX7_years_99 ?_
              refine ww_iload4 C dX7_years_101 ?_
              refine ww_cV3v C hM.1 rfl (m_shortOf g n w2 hM rpE hp8 hSd hNb.1 (bk := 1) (i := i) (s := 2 ^ h.2.2.2.1 - 1) (by omega) c66 (by omega) (fun i hi => ⟨(hRY2 i hi).1, hK3 i⟩) hNb.2.1 hNb.2.2) kV_X7_198 ⟨Nat.le_of_ble_eq_true rfl, Nat.le_of_ble_eq_true rfl⟩ ⟨rfl, rfl⟩ ⟨Nat.le_of_ble_eq_true rfl, Nat.le_of_ble_eq_true rfl⟩ (Nat.le_of_ble_eq_true rfl) dX7_years_103 ?_
              rcases qs : shortN a.1 (Y_ h a z1 y1).1 (Y_ h a z1 y1).2 h.2.2.2.1 (2 ^ h.2.2.2.1 - 1) i with _ | v
              · skip
                refine ww_ifle C (tgt := 113) dX7_years_106 (by decide) (fun c106 => ?_) (fun c106 => ?_)
                · skip
                  refine ww_iconst C (v := nI 0) dX7_years_113 (by decide) ?_
                  exact jn114 0 (by rw [cnN_f (b := (fun i => tb (2 ^ h.2.2.2.1 - 1) i && (shortN a.1 (Y_ h a z1 y1).1 (Y_ h a z1 y1).2 h.2.2.2.1 (2 ^ h.2.2.2.1 - 1) i).isSome)) (i := i) (by show (tb _ i && (shortN _ _ _ _ _ i).isSome) = false; rw [qs]; simp)]; rfl)
                · skip
                  exact absurd (by decide) c106
              · skip
                have hv := shortN_le hNb.1 qs
                refine ww_topi (show oI (some v) = nI v from rfl) ?_
                refine ww_ifle C (tgt := 113) dX7_years_106 (by decide) (fun c106 => ?_) (fun c106 => ?_)
                · skip
                  exact absurd c106 (nI_gt (by omega) (by omega))
                · skip
                  refine ww_iconst C (v := nI 1) dX7_years_109 (by decide) ?_
                  refine ww_goto C (tgt := 114) dX7_years_110 (by decide) ?_
                  exact jn114 1 (by rw [cnN_t (b := (fun i => tb (2 ^ h.2.2.2.1 - 1) i && (shortN a.1 (Y_ h a z1 y1).1 (Y_ h a z1 y1).2 h.2.2.2.1 (2 ^ h.2.2.2.1 - 1) i).isSome)) (i := i) (by show (tb _ i && (shortN _ _ _ _ _ i).isSome) = true; rw [qs, tb_all c66]; rfl)])
            refine ww_aload0 C dX7_years_69 ?_
            refine ww_getf C fl_X7_64 hM.1 rfl dX7_years_70 ?_
            refine ww_iload7 C dX7_years_73 ?_
            refine ww_ialdN C hM.a18 (by omega) dX7_years_75 (kk := ?_)
            rw [(hSd i c66).1]
            refine ww_iload5 C dX7_years_76 ?_
            refine ww_icmpleN C (by have := longN_le (K := a.1) (hNb.1 i); have := maxN_le (f := longN a.1 (Y_ h a z1 y1).1) (b := 20) (fun i => longN_le (hNb.1 i)) i; omega) (tgt := 91) dX7_years_78 (by decide) (fun c78 => ?_) (fun c78 => ?_)
            · skip
              refine ww_iload5 C dX7_years_91 ?_
              exact jn93 _ (by show _ = max (maxN (longN a.1 (Y_ h a z1 y1).1) i) (longN a.1 (Y_ h a z1 y1).1 i); omega)
            · skip
              refine ww_aload0 C dX7_years_81 ?_
              refine ww_getf C fl_X7_64 hM.1 rfl dX7_years_82 ?_
              refine ww_iload7 C dX7_years_85 ?_
              refine ww_ialdN C hM.a18 (by omega) dX7_years_87 (kk := ?_)
              rw [(hSd i c66).1]
              refine ww_goto C (tgt := 93) dX7_years_88 (by decide) ?_
              exact jn93 _ (by show _ = max (maxN (longN a.1 (Y_ h a z1 y1).1) i) (longN a.1 (Y_ h a z1 y1).1 i); omega)
      exact lp58 (h.2.2.2.1 + 1) 0 (by omega) (by omega)
    · skip
      refine ww_iconst C (v := -1) dX7_years_20 (by decide) ?_
      exact ww_riq C dX7_years_21 rfl ⟨Nat.le_of_ble_eq_true rfl, Nat.le_of_ble_eq_true rfl⟩ (by unfold V_years; rw [if_neg (fun e => by rw [c17] at e; cases e.2)]) ⟨hMR, fr.rf⟩
