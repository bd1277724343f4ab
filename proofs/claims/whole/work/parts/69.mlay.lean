theorem m_readAll (g : Gx) (n : Nat) (w : Wd) {A : Nat → Nat → Nat} {len pl km : Nat} (hM : MO w A len pl km) {t : Nat → Nat} (ht : ∀ j, j < len → A 0 j = t j) (ht256 : ∀ j, t j < 256) (hl4 : len ≤ 400) : CT g yX7_readAll cX7_readAll 2 (some .int) rm_X7_readAll n n w [.ref 59] (Rq (.int (oI (RD t len).1)) (fun w1 => ∃ B P, MO w1 B len P km ∧ fr w w1 59 83 ∧ Sm B A ∧ ((RD t len).1 = none → DR B (RD t len).2))) := by
  have hf : fr w w 59 83 := fr.rf
  refine CT.start [some (.ref 59), none] (by decide +kernel) rfl (Nat.le_of_ble_eq_true rfl) (fun x C hnm => ?_)
  refine ww_aload0 C dX7_readAll_0 ?_
  refine ww_iconst C (v := nI 1) dX7_readAll_1 (by decide) ?_
  refine ww_cV10q C hM.1 rfl (m_noHill g n w hM (bk := 1) (by decide)) kV_X7_79 ⟨Nat.le_of_ble_eq_true rfl, Nat.le_of_ble_eq_true rfl⟩ ⟨rfl, rfl⟩ ⟨Nat.le_of_ble_eq_true rfl, Nat.le_of_ble_eq_true rfl⟩ (Nat.le_of_ble_eq_true rfl) dX7_readAll_2 (fun w1 hw1 => ?_)
  obtain ⟨B, hM, hf1, hNH⟩ := hw1
  have hf := hf.tr hf1
  have hSm := hNH.sm
  have hDR := hNH.dr
  refine ww_aload0 C dX7_readAll_5 ?_
  refine ww_iconst C (v := nI 0) dX7_readAll_6 (by decide) ?_
  refine ww_putI C fl_X7_98 hM.1 (Nat.le_of_ble_eq_true rfl) rfl dX7_readAll_7 (fun w2 hw2 => ?_)
  have hf : fr w w2 59 83 := hf.tr (fr.up hw2 (by omega) (by omega))
  have hM := hM.setO (len2 := len) (km2 := km) (pl2 := 0) hw2
  have lp10 : ∀ (m : Nat) (c P : Nat) (B : Nat → Nat → Nat) (u : Wd) (h1 : Hs) (z1 : Option Value), c ≤ P → P ≤ 400 → 400 < c + m → RD t len = rdN t len (400 - c) P h1 → Sm B A → DR B h1 → MO u B len P km → fr w u 59 83 → WW g x 2 0 0 n u 10 [some (.ref 59), z1] [] := by
    intro m
    induction m with
    | zero =>
      intro c P B u h1 z1 hcP hP hm hR hSm hDR hM hf
      exact absurd hm (by omega)
    | succ m ih10 =>
      intro c P B u h1 z1 hcP hP hm hR hSm hDR hM hf
      refine ww_aload0 C dX7_readAll_10 ?_
      refine ww_getf C fl_X7_98 hM.1 rfl dX7_readAll_11 ?_
      refine ww_aload0 C dX7_readAll_14 ?_
      refine ww_getf C fl_X7_92 hM.1 rfl dX7_readAll_15 ?_
      refine ww_icmpgeN C (by omega) (tgt := 38) dX7_readAll_18 (by decide) (fun c18 => ?_) (fun c18 => ?_)
      · skip
        refine ww_bipush C (v := -4) dX7_readAll_38 (by decide) ?_
        exact ww_riq C dX7_readAll_40 rfl ⟨Nat.le_of_ble_eq_true rfl, Nat.le_of_ble_eq_true rfl⟩ (by rw [hR, rdN_x (by omega)]; rfl) ⟨B, P, hM, hf, hSm, fun _ => by rw [hR, rdN_x (by omega)]; exact hDR⟩
      · skip
        refine ww_aload0 C dX7_readAll_21 ?_
        refine ww_getf C fl_X7_98 hM.1 rfl dX7_readAll_22 ?_
        refine ww_istore1 C dX7_readAll_25 (by decide) rfl ?_
        refine ww_aload0 C dX7_readAll_26 ?_
        refine ww_cV0vq C hM.1 rfl (m_item g n u hM (t := t) (fun j hj => (congrFun hSm.1 j).trans (ht j hj)) ht256 hl4 c18 hDR) kV_X7_125 ⟨Nat.le_of_ble_eq_true rfl, Nat.le_of_ble_eq_true rfl⟩ ⟨rfl, rfl⟩ ⟨Nat.le_of_ble_eq_true rfl, Nat.le_of_ble_eq_true rfl⟩ (Nat.le_of_ble_eq_true rfl) dX7_readAll_27 (fun w3 hw3 => ?_)
        obtain ⟨B9, P9, hM9, hf9, hS9, hP9, hR9⟩ := hw3
        rcases q9 : itemR t len P h1 with _ | r9
        · skip
          refine ww_ifneB C (tgt := 35) dX7_readAll_30 (by decide) (fun c30 => ?_) (fun c30 => ?_)
          · skip
            cases c30
          · skip
            refine ww_iload1 C dX7_readAll_33 ?_
            exact ww_riq C dX7_readAll_34 rfl ⟨Nat.le_of_ble_eq_true rfl, Nat.le_of_ble_eq_true rfl⟩ (by rw [hR, show 400 - c = (400 - (c + 1)) + 1 by omega, rdN_n c18 q9]; rfl) ⟨B9, P9, hM9, hf.tr hf9, hSm.tr hS9, fun e => by rw [hR, show 400 - c = (400 - (c + 1)) + 1 by omega, rdN_n c18 q9] at e; cases e⟩
        · skip
          have hgt := item_gt q9
          obtain ⟨z1, z2⟩ := hR9 r9 q9
          refine ww_ifneB C (tgt := 35) dX7_readAll_30 (by decide) (fun c30 => ?_) (fun c30 => ?_)
          · skip
            refine ww_goto C (tgt := 10) dX7_readAll_35 (by decide) ?_
            exact ih10 (c + 1) P9 B9 _ r9.2 _ (by omega) (by omega) (by omega) (by rw [hR, show 400 - c = (400 - (c + 1)) + 1 by omega, rdN_s c18 q9, z1]) (hSm.tr hS9) z2 hM9 (hf.tr hf9)
          · skip
            cases c30
  exact lp10 (401) 0 0 B _ H0 _ (by omega) (by omega) (by omega) rfl hSm hDR hM hf
theorem m_fault (g : Gx) (n : Nat) (w : Wd) {t : Nat → Nat} {len : Nat} {h : Hs} {a : Ms} {kn : Nat} {k1 k2 : Ms} (hMR : MR w t len h a kn k1 k2) (hB : Bd h a) (hBk : Bk kn k1 k2) (ht256 : ∀ j, t j < 256) : CT g yX7_fault cX7_fault 1 (some .int) rm_X7_fault n n w [.ref 59] (Rq (.int (V_fault t len)) (fun w1 => MR w1 t len h a kn k1 k2 ∧ fr w w1 59 83)) := by
  obtain ⟨A, pl, hM, hRl⟩ := id hMR
  have hf : fr w w 59 83 := fr.rf
  obtain ⟨⟨hp1, hp8⟩, ⟨hb1, hb12, hv20, hmi9⟩, hK3, hM10, hS5, hM1, hX99, hR9, hwo5, hsh1, hbe9, hhd9, hhn12⟩ := id hB
  obtain ⟨hln, hkn2, htx, hRH, hRN, hRE, hk1r, hk2r⟩ := id hRl
  obtain ⟨rp, rX, rw_, rb, rv, rm_⟩ := id hRH
  refine CT.start [some (.ref 59)] (by decide +kernel) rfl (Nat.le_of_ble_eq_true rfl) (fun x C hnm => ?_)
  refine ww_aload0 C dX7_fault_0 ?_
  refine ww_cV0vq C hM.1 rfl (m_readAll g n w hM htx ht256 hln) kV_X7_128 ⟨Nat.le_of_ble_eq_true rfl, Nat.le_of_ble_eq_true rfl⟩ ⟨rfl, rfl⟩ ⟨Nat.le_of_ble_eq_true rfl, Nat.le_of_ble_eq_true rfl⟩ (Nat.le_of_ble_eq_true rfl) dX7_fault_1 (fun w1 hw1 => ?_)
  obtain ⟨B, P, hM, hf1, hSm, hDR⟩ := hw1
  have hf := hf.tr hf1
  exact ww_riq C dX7_fault_4 rfl ⟨Nat.le_of_ble_eq_true rfl, Nat.le_of_ble_eq_true rfl⟩ rfl ⟨⟨B, P, hM, hRl.sm hB hBk hSm⟩, hf⟩
theorem m_layHill (g : Gx) (n : Nat) (w : Wd) {A : Nat → Nat → Nat} {len pl km : Nat} (hM : MO w A len pl km) : CT g yX7_layHill cX7_layHill 3 none rm_X7_layHill n n w [.ref 59] (R0q (fun w1 => ∃ B, MO w1 B len pl 0 ∧ fr w w1 59 83 ∧ (∀ b, ¬ b = 11 → ¬ b = 12 → ¬ b = 13 → ¬ b = 14 → B b = A b) ∧ (∀ j, j < 8 → B 11 j = A 2 j ∧ B 12 j = A 3 j ∧ ∀ e, e < 6 → B 13 (10 * j + e) = A 4 (6 * j + e)) ∧ B 14 0 = 0)) := by
  have hf : fr w w 59 83 := fr.rf
  refine CT.start [some (.ref 59), none, none] (by decide +kernel) rfl (Nat.le_of_ble_eq_true rfl) (fun x C hnm => ?_)
  refine ww_iconst C (v := nI 0) dX7_layHill_0 (by decide) ?_
  refine ww_istore1 C dX7_layHill_1 (by decide) rfl ?_
  have lp2 : ∀ (m : Nat) (i : Nat) (B : Nat → Nat → Nat) (u : Wd) (z2 : Option Value), i ≤ 8 → 8 < i + m → (∀ b, ¬ b = 11 → ¬ b = 12 → ¬ b = 13 → B b = A b) → (∀ j, j < i → B 11 j = A 2 j ∧ B 12 j = A 3 j ∧ ∀ e, e < 6 → B 13 (10 * j + e) = A 4 (6 * j + e)) → MO u B len pl km → fr w u 59 83 → WW g x 3 0 0 n u 2 [some (.ref 59), some (.int (nI i)), z2] [] := by
    intro m
    induction m with
    | zero =>
      intro i B u z2 hi0 hm hBo hin hM hf
      exact absurd hm (by omega)
    | succ m ih2 =>
      intro i B u z2 hi0 hm hBo hin hM hf
      refine ww_iload1 C dX7_layHill_2 ?_
      refine ww_bipush C (v := nI 8) dX7_layHill_3 (by decide) ?_
      refine ww_icmpgeN C (by omega) (tgt := 84) dX7_layHill_5 (by decide) (fun c5 => ?_) (fun c5 => ?_)
      · skip
        refine ww_aload0 C dX7_layHill_84 ?_
        refine ww_getf C fl_X7_52 hM.1 rfl dX7_layHill_85 ?_
        refine ww_iconst C (v := nI 0) dX7_layHill_88 (by decide) ?_
        refine ww_iconst C (v := nI 0) dX7_layHill_89 (by decide) ?_
        refine ww_iastN C hM.a14 (by decide) dX7_layHill_90 (kk := fun w1 hw1 => ?_)
        have hf : fr w w1 59 83 := hf.tr (fr.up hw1 (by omega) (by omega))
        obtain ⟨A1, hM, e1, o1⟩ := hM.st 14 (by decide) hw1
        refine ww_aload0 C dX7_layHill_91 ?_
        refine ww_iconst C (v := nI 0) dX7_layHill_92 (by decide) ?_
        refine ww_putI C fl_X7_132 hM.1 (Nat.le_of_ble_eq_true rfl) rfl dX7_layHill_93 (fun w2 hw2 => ?_)
        have hf : fr w w2 59 83 := hf.tr (fr.up hw2 (by omega) (by omega))
        have hM := hM.setO (len2 := len) (km2 := 0) (pl2 := pl) hw2
        exact ww_rvq C dX7_layHill_96 rfl ⟨Nat.le_of_ble_eq_true rfl, Nat.le_of_ble_eq_true rfl⟩ ⟨A1, hM, hf, fun b h1 h2 h3 h4 => (o1 b h4).trans (hBo b h1 h2 h3), fun j hj => by rw [o1 11 (by decide), o1 12 (by decide), o1 13 (by decide)]; exact hin j (by omega), up_at e1 rfl⟩
      · skip
        refine ww_aload0 C dX7_layHill_8 ?_
        refine ww_getf C fl_X7_43 hM.1 rfl dX7_layHill_9 ?_
        refine ww_iload1 C dX7_layHill_12 ?_
        refine ww_aload0 C dX7_layHill_13 ?_
        refine ww_getf C fl_X7_16 hM.1 rfl dX7_layHill_14 ?_
        refine ww_iload1 C dX7_layHill_17 ?_
        refine ww_ialdN C hM.a2 (by omega) dX7_layHill_18 (kk := ?_)
        rw [show B 2 i = A 2 i from congrFun (hBo 2 (by decide) (by decide) (by decide)) i]
        refine ww_iastN C hM.a11 (by omega) dX7_layHill_19 (kk := fun w3 hw3 => ?_)
        have hf : fr w w3 59 83 := hf.tr (fr.up hw3 (by omega) (by omega))
        obtain ⟨A3, hM, e3, o3⟩ := hM.st 11 (by decide) hw3
        refine ww_aload0 C dX7_layHill_20 ?_
        refine ww_getf C fl_X7_46 hM.1 rfl dX7_layHill_21 ?_
        refine ww_iload1 C dX7_layHill_24 ?_
        refine ww_aload0 C dX7_layHill_25 ?_
        refine ww_getf C fl_X7_19 hM.1 rfl dX7_layHill_26 ?_
        refine ww_iload1 C dX7_layHill_29 ?_
        refine ww_ialdN C hM.a3 (by omega) dX7_layHill_30 (kk := ?_)
        rw [show A3 3 i = A 3 i from congrFun ((o3 3 (by decide)).trans (hBo 3 (by decide) (by decide) (by decide))) i]
        refine ww_iastN C hM.a12 (by omega) dX7_layHill_31 (kk := fun w4 hw4 => ?_)
        have hf : fr w w4 59 83 := hf.tr (fr.up hw4 (by omega) (by omega))
        obtain ⟨A4, hM, e4, o4⟩ := hM.st 12 (by decide) hw4
        skip
        refine ww_iconst C (v := nI 0) dX7_layHill_32 (by decide) ?_
        refine ww_istore2 C dX7_layHill_33 (by decide) rfl ?_
        have lp34 : ∀ (m : Nat) (q : Nat) (D : Nat → Nat → Nat) (u : Wd), q ≤ 10 → 10 < q + m → (∀ b, ¬ b = 11 → ¬ b = 12 → ¬ b = 13 → D b = A b) → D 11 = va_up (B 11) i (A 2 i) → D 12 = va_up (B 12) i (A 3 i) → (∀ j, j < 10 * i → D 13 j = B 13 j) → (∀ e, e < q → e < 6 → D 13 (10 * i + e) = A 4 (6 * i + e)) → MO u D len pl km → fr w u 59 83 → WW g x 3 0 0 n u 34 [some (.ref 59), some (.int (nI i)), some (.int (nI q))] [] := by
          intro m
          induction m with
          | zero =>
            intro q D u hq0 hm hDo hD11 hD12 hD13 hDq hM hf
            exact absurd hm (by omega)
          | succ m ih34 =>
            intro q D u hq0 hm hDo hD11 hD12 hD13 hDq hM hf
            refine ww_iload2 C dX7_layHill_34 ?_
            refine ww_bipush C (v := nI 10) dX7_layHill_35 (by decide) ?_
            refine ww_icmpgeN C (by omega) (tgt := 78) dX7_layHill_37 (by decide) (fun c37 => ?_) (fun c37 => ?_)
            · skip
              refine ww_iincN1 C dX7_layHill_78 (by decide) rfl ?_
              refine ww_goto C (tgt := 2) dX7_layHill_81 (by decide) ?_
              exact ih2 (i + 1) D _ _ (by omega) (by omega) hDo (fun j hj => by by_cases c : j = i; (rw [c]; exact ⟨up_at hD11 rfl, up_at hD12 rfl, fun e he => hDq e (by omega) he⟩); (exact ⟨(up_no hD11 c).trans (hin j (by omega)).1, (up_no hD12 c).trans (hin j (by omega)).2.1, fun e he => (hD13 _ (by omega)).trans ((hin j (by omega)).2.2 e he)⟩)) hM hf
            · skip
              refine ww_aload0 C dX7_layHill_40 ?_
              refine ww_getf C fl_X7_49 hM.1 rfl dX7_layHill_41 ?_
              refine ww_bipush C (v := nI 10) dX7_layHill_44 (by decide) ?_
              refine ww_iload1 C dX7_layHill_46 ?_
              refine ww_imulN C dX7_layHill_47 ?_
              refine ww_iload2 C dX7_layHill_48 ?_
              refine ww_iaddN C dX7_layHill_49 ?_
              refine ww_iload2 C dX7_layHill_50 ?_
              refine ww_bipush C (v := nI 6) dX7_layHill_51 (by decide) ?_
              refine ww_icmpgeN C (by omega) (tgt := 70) dX7_layHill_53 (by decide) (fun c53 => ?_) (fun c53 => ?_)
              · skip
                refine ww_iconst C (v := nI 0) dX7_layHill_70 (by decide) ?_
                refine ww_iastN C hM.a13 (by omega) dX7_layHill_71 (kk := fun w5 hw5 => ?_)
                have hf : fr w w5 59 83 := hf.tr (fr.up hw5 (by omega) (by omega))
                obtain ⟨A5, hM, e5, o5⟩ := hM.st 13 (by decide) hw5
                refine ww_iincN2 C dX7_layHill_72 (by decide) rfl ?_
                refine ww_goto C (tgt := 34) dX7_layHill_75 (by decide) ?_
                exact ih34 (q + 1) A5 _ (by omega) (by omega) (fun b h1 h2 h3 => (o5 b h3).trans (hDo b h1 h2 h3)) ((o5 11 (by decide)).trans hD11) ((o5 12 (by decide)).trans hD12) (fun j hj => (up_no e5 (by omega)).trans (hD13 j hj)) (fun e he hq => by by_cases c : e = q; (exact absurd hq (by omega)); (exact (up_no e5 (by omega)).trans (hDq e (by omega) hq))) hM hf
              · skip
                refine ww_aload0 C dX7_layHill_56 ?_
                refine ww_getf C fl_X7_22 hM.1 rfl dX7_layHill_57 ?_
                refine ww_bipush C (v := nI 6) dX7_layHill_60 (by decide) ?_
                refine ww_iload1 C dX7_layHill_62 ?_
                refine ww_imulN C dX7_layHill_63 ?_
                refine ww_iload2 C dX7_layHill_64 ?_
                refine ww_iaddN C dX7_layHill_65 ?_
                refine ww_ialdN C hM.a4 (by omega) dX7_layHill_66 (kk := ?_)
                rw [show D 4 (6 * i + q) = A 4 (6 * i + q) from congrFun (hDo 4 (by decide) (by decide) (by decide)) _]
                refine ww_goto C (tgt := 71) dX7_layHill_67 (by decide) ?_
                refine ww_iastN C hM.a13 (by omega) dX7_layHill_71 (kk := fun w6 hw6 => ?_)
                have hf : fr w w6 59 83 := hf.tr (fr.up hw6 (by omega) (by omega))
                obtain ⟨A6, hM, e6, o6⟩ := hM.st 13 (by decide) hw6
                refine ww_iincN2 C dX7_layHill_72 (by decide) rfl ?_
                refine ww_goto C (tgt := 34) dX7_layHill_75 (by decide) ?_
                exact ih34 (q + 1) A6 _ (by omega) (by omega) (fun b h1 h2 h3 => (o6 b h3).trans (hDo b h1 h2 h3)) ((o6 11 (by decide)).trans hD11) ((o6 12 (by decide)).trans hD12) (fun j hj => (up_no e6 (by omega)).trans (hD13 j hj)) (fun e he hq => by by_cases c : e = q; (rw [c]; exact up_at e6 rfl); (exact (up_no e6 (by omega)).trans (hDq e (by omega) hq))) hM hf
        exact lp34 (11) 0 A4 _ (by omega) (by omega) (fun b h1 h2 h3 => (o4 b h2).trans ((o3 b h1).trans (hBo b h1 h2 h3))) ((o4 11 (by decide)).trans e3) (e4.trans (by rw [o3 12 (by decide)])) (fun j _ => congrFun ((o4 13 (by decide)).trans (o3 13 (by decide))) j) (fun e he => absurd he (by omega)) hM hf
  exact lp2 (9) 0 A _ _ (by omega) (by omega) (fun _ _ _ _ => rfl) (fun j hj => absurd hj (by omega)) hM hf
/-- a row's front half copied from behind -/
def Cy (F G : Nat → Nat) (i off : Nat) : Prop := (∀ j, j < i → F j = G (off + j)) ∧ ∀ j, off ≤ j → F j = G j
theorem Cy.rf (G : Nat → Nat) (off : Nat) : Cy G G 0 off := ⟨fun j hj => absurd hj (Nat.not_lt_zero j), fun _ _ => rfl⟩
theorem Cy.s {F G F2 : Nat → Nat} {i off : Nat} (h : Cy F G i off) (hi : i < off) (e : F2 = va_up F i (F (off + i))) : Cy F2 G (i + 1) off := by
  refine ⟨fun j hj => ?_, fun j hj => (up_no e (by omega)).trans (h.2 j hj)⟩
  by_cases c : j = i
  · rw [c]; exact (up_at e rfl).trans (h.2 _ (by omega))
  · exact (up_no e c).trans (h.1 j (by omega))
theorem Cy.eq {F G F2 : Nat → Nat} {i off : Nat} (h : Cy F G i off) (e : F2 = F) : Cy F2 G i off := by rw [e]; exact h
theorem lay_fin {B C1 D E G Z : Nat → Nat → Nat} {r h : Hs} (hDR : DR B r) (y : Ag h r) (hCo : ∀ b, ¬ b = 1 → ¬ b = 2 → ¬ b = 3 → ¬ b = 5 → ¬ b = 6 → C1 b = B b) (h10 : C1 1 0 = B 1 1) (h2c : Cy (C1 2) (B 2) 8 8) (h3c : Cy (C1 3) (B 3) 8 8) (h5c : Cy (C1 5) (B 5) 8 8) (h6c : Cy (C1 6) (B 6) 8 8) (hDo : ∀ b, ¬ b = 4 → D b = C1 b) (h4c : Cy (D 4) (C1 4) 48 48) (hEo : ∀ b, ¬ b = 7 → ¬ b = 8 → ¬ b = 9 → E b = D b) (h7c : Cy (E 7) (D 7) 6 6) (h8c : Cy (E 8) (D 8) 6 6) (h9c : Cy (E 9) (D 9) 6 6) (hGo : ∀ b, ¬ b = 10 → G b = E b) (hac : Cy (G 10) (E 10) 3 3) (hZo : ∀ b, ¬ b = 11 → ¬ b = 12 → ¬ b = 13 → ¬ b = 14 → Z b = G b) (hZ1 : ∀ j, j < 8 → Z 11 j = G 2 j ∧ Z 12 j = G 3 j ∧ ∀ e, e < 6 → Z 13 (10 * j + e) = G 4 (6 * j + e)) (hZ14 : Z 14 0 = 0) : Z 0 = B 0 ∧ Z 1 0 = r.2.2.2.1 ∧ RH Z h ∧ RN Z 0 h.2.2.2.1 h.1 h.2.1 h.2.2.1 ∧ (∀ hd, RE Z 0 hd 0) ∧ (∀ i, i < h.2.2.2.1 → 1 ≤ h.2.1 i) ∧ 1 ≤ h.2.2.2.2.2.2.2.2.2.1 := by
  obtain ⟨d1, d2, d3, d4, d5, d6, d7, d8⟩ := hDR
  obtain ⟨y1, y2, y3, y4, y5⟩ := y
  have zr : ∀ b, b < 11 → Z b = G b := fun b hb => hZo b (by omega) (by omega) (by omega) (by omega)
  have gr : ∀ b, ¬ b = 10 → ¬ b = 7 → ¬ b = 8 → ¬ b = 9 → ¬ b = 4 → G b = C1 b := fun b h10 h7 h8 h9 h4 => (hGo b h10).trans ((hEo b h7 h8 h9).trans (hDo b h4))
  have z1 : Z 1 0 = r.2.2.2.1 := by rw [zr 1 (by decide), gr 1 (by decide) (by decide) (by decide) (by decide) (by decide), h10, d1]
  have q2 : ∀ j, j < 8 → G 2 j = B 2 (8 + j) := fun j hj => by rw [gr 2 (by decide) (by decide) (by decide) (by decide) (by decide)]; exact h2c.1 j hj
  have q3 : ∀ j, j < 8 → G 3 j = B 3 (8 + j) := fun j hj => by rw [gr 3 (by decide) (by decide) (by decide) (by decide) (by decide)]; exact h3c.1 j hj
  have q5 : ∀ j, j < 8 → Z 5 j = B 5 (8 + j) := fun j hj => by rw [zr 5 (by decide), gr 5 (by decide) (by decide) (by decide) (by decide) (by decide)]; exact h5c.1 j hj
  have q6 : ∀ j, j < 8 → Z 6 j = B 6 (8 + j) := fun j hj => by rw [zr 6 (by decide), gr 6 (by decide) (by decide) (by decide) (by decide) (by decide)]; exact h6c.1 j hj
  have c4 : ∀ j, j < 48 → G 4 j = B 4 (48 + j) := fun j hj => by rw [hGo 4 (by decide), hEo 4 (by decide) (by decide) (by decide), h4c.1 j hj, hCo 4 (by decide) (by decide) (by decide) (by decide) (by decide)]
  have q7 : ∀ j, j < 6 → Z 7 j = B 7 (6 + j) ∧ Z 8 j = B 8 (6 + j) ∧ Z 9 j = B 9 (6 + j) := fun j hj => by
    refine ⟨?_, ?_, ?_⟩
    · rw [zr 7 (by decide), hGo 7 (by decide), h7c.1 j hj, hDo 7 (by decide), hCo 7 (by decide) (by decide) (by decide) (by decide) (by decide)]
    · rw [zr 8 (by decide), hGo 8 (by decide), h8c.1 j hj, hDo 8 (by decide), hCo 8 (by decide) (by decide) (by decide) (by decide) (by decide)]
    · rw [zr 9 (by decide), hGo 9 (by decide), h9c.1 j hj, hDo 9 (by decide), hCo 9 (by decide) (by decide) (by decide) (by decide) (by decide)]
  have qa : ∀ j, j < 3 → Z 10 j = B 10 (3 + j) := fun j hj => by
    rw [zr 10 (by decide), hac.1 j hj, hEo 10 (by decide) (by decide) (by decide), hDo 10 (by decide), hCo 10 (by decide) (by decide) (by decide) (by decide) (by decide)]
  have e4 : h.2.2.2.2.2.2.2.2.2.1 = r.2.2.2.2.2.2.2.2.2.1 ∧ h.2.2.2.2.2.2.2.2.2.2.1 = r.2.2.2.2.2.2.2.2.2.2.1 ∧ h.2.2.2.2.2.2.2.2.2.2.2 = r.2.2.2.2.2.2.2.2.2.2.2 := by rw [y4]; exact ⟨rfl, rfl, rfl⟩
  refine ⟨?_, z1, ⟨z1.trans y1.symm, fun i hi => ?_, fun d hd => ?_, ?_, ?_, ?_⟩, fun i hi => ?_, fun hd => ⟨hZ14, fun j hj => absurd hj (Nat.not_lt_zero j)⟩, fun i hi => ?_, ?_⟩
  · rw [zr 0 (by decide), gr 0 (by decide) (by decide) (by decide) (by decide) (by decide), hCo 0 (by decide) (by decide) (by decide) (by decide) (by decide)]
  · obtain ⟨s1, s2, s3, s4, s5⟩ := y2 i hi
    rw [y1] at hi
    obtain ⟨t1, t2, t3, t4, t5, t6⟩ := d3 i hi
    rw [s3, s4, q5 i (by omega), q6 i (by omega)]
    exact ⟨t3, t4⟩
  · obtain ⟨s1, s2, s3⟩ := y3 d hd
    obtain ⟨t1, t2, t3⟩ := d4 d hd
    obtain ⟨u1, u2, u3⟩ := q7 d hd
    rw [s1, s2, s3, u1, u2, u3]
    exact ⟨t1, t2, t3⟩
  · rw [e4.1, qa 0 (by decide)]; exact d5
  · rw [e4.2.1, qa 1 (by decide)]; exact d6
  · rw [e4.2.2, qa 2 (by decide)]; exact d7
  · obtain ⟨s1, s2, s3, s4, s5⟩ := y2 i hi
    rw [y1] at hi
    obtain ⟨t1, t2, t3, t4, t5, t6⟩ := d3 i hi
    obtain ⟨u1, u2, u3⟩ := hZ1 i (by omega)
    rw [show 8 * 0 + i = i by omega]
    refine ⟨by rw [u1, q2 i (by omega), t1, s1], by rw [u2, q3 i (by omega), t2, s2], fun q hq => ?_⟩
    rw [s2] at hq
    rw [u3 q (by omega), c4 _ (by omega), s5 q (by rw [s2]; exact hq), ← t6 q hq]
    congr 1
    omega
  · rw [(y2 i hi).2.1]
    rw [y1] at hi
    exact (d3 i hi).2.2.2.2.1.1
  · rw [e4.1]; exact d8
theorem m_lay (g : Gx) (n : Nat) (w : Wd) {t : Nat → Nat} {len : Nat} {h : Hs} {a : Ms} {kn : Nat} {k1 k2 : Ms} (hMR : MR w t len h a kn k1 k2) (hB : Bd h a) (hBk : Bk kn k1 k2) (ht256 : ∀ j, t j < 256) {h2 : Hs} {a2 : Ms} {kn2 : Nat} (hy : okL t len → Ag h2 (RD t len).2 ∧ a2 = (h2.1, h2.2.1, h2.2.2.1, a.2.2.2.1, 0) ∧ kn2 = 0) (hn : ¬ okL t len → h2 = h ∧ a2 = a ∧ kn2 = kn) : CT g yX7_lay cX7_lay 2 (some .int) rm_X7_lay n n w [.ref 59] (Rq (.int (V_lay t len)) (fun w1 => MR w1 t len h2 a2 kn2 k1 k2 ∧ fr w w1 59 83 ∧ (okL t len → (∀ i, i < h2.2.2.2.1 → 1 ≤ h2.2.1 i) ∧ 1 ≤ h2.2.2.2.2.2.2.2.2.2.1))) := by
  obtain ⟨A, pl, hM, hRl⟩ := id hMR
  have hf : fr w w 59 83 := fr.rf
  obtain ⟨⟨hp1, hp8⟩, ⟨hb1, hb12, hv20, hmi9⟩, hK3, hM10, hS5, hM1, hX99, hR9, hwo5, hsh1, hbe9, hhd9, hhn12⟩ := id hB
  obtain ⟨hln, hkn2, htx, hRH, hRN, hRE, hk1r, hk2r⟩ := id hRl
  obtain ⟨rp, rX, rw_, rb, rv, rm_⟩ := id hRH
  have hlt : ∀ q, (RD t len).1 = some q → q < 2147483648 := fun q e => by have := rdN_lt _ _ _ q e; omega
  refine CT.start [some (.ref 59), none] (by decide +kernel) rfl (Nat.le_of_ble_eq_true rfl) (fun x C hnm => ?_)
  refine ww_aload0 C dX7_lay_0 ?_
  refine ww_cV0vq C hM.1 rfl (m_readAll g n w hM htx ht256 hln) kV_X7_128 ⟨Nat.le_of_ble_eq_true rfl, Nat.le_of_ble_eq_true rfl⟩ ⟨rfl, rfl⟩ ⟨Nat.le_of_ble_eq_true rfl, Nat.le_of_ble_eq_true rfl⟩ (Nat.le_of_ble_eq_true rfl) dX7_lay_1 (fun w1 hw1 => ?_)
  obtain ⟨B, P, hM, hf1, hSm, hDR⟩ := hw1
  have hf := hf.tr hf1
  refine ww_bipush C (v := -4) dX7_lay_4 (by decide) ?_
  refine ww_icmpne C (tgt := 18) dX7_lay_6 (by decide) (fun c6 => ?_) (fun c6 => ?_)
  · skip
    refine ww_bipush C (v := -2) dX7_lay_18 (by decide) ?_
    exact ww_riq C dX7_lay_20 rfl ⟨Nat.le_of_ble_eq_true rfl, Nat.le_of_ble_eq_true rfl⟩ (by unfold V_lay; rw [if_neg (fun e => c6 (by rw [e.1]; rfl))]) ⟨by obtain ⟨n1, n2, n3⟩ := hn (fun e => c6 (by rw [e.1]; rfl)); rw [n1, n2, n3]; exact ⟨B, P, hM, hRl.sm hB hBk hSm⟩, hf, fun e => absurd e (fun e => c6 (by rw [e.1]; rfl))⟩
  · skip
    have c6 := (oI_none hlt).mp c6
    have hDR := hDR c6
    refine ww_aload0 C dX7_lay_9 ?_
    refine ww_getf C fl_X7_13 hM.1 rfl dX7_lay_10 ?_
    refine ww_iconst C (v := nI 1) dX7_lay_13 (by decide) ?_
    refine ww_ialdN C hM.a1 (by decide) dX7_lay_14 (kk := ?_)
    refine ww_ifneN C (by have h8 := hDR.2.1; rw [← hDR.1] at h8; omega) (tgt := 21) dX7_lay_15 (by decide) (fun c15 => ?_) (fun c15 => ?_)
    · skip
      refine ww_aload0 C dX7_lay_21 ?_
      refine ww_getf C fl_X7_13 hM.1 rfl dX7_lay_22 ?_
      refine ww_iconst C (v := nI 0) dX7_lay_25 (by decide) ?_
      refine ww_aload0 C dX7_lay_26 ?_
      refine ww_getf C fl_X7_13 hM.1 rfl dX7_lay_27 ?_
      refine ww_iconst C (v := nI 1) dX7_lay_30 (by decide) ?_
      refine ww_ialdN C hM.a1 (by decide) dX7_lay_31 (kk := ?_)
      refine ww_iastN C hM.a1 (by decide) dX7_lay_32 (kk := fun w2 hw2 => ?_)
      have hf : fr w w2 59 83 := hf.tr (fr.up hw2 (by omega) (by omega))
      obtain ⟨A2, hM, e2, o2⟩ := hM.st 1 (by decide) hw2
      skip
      refine ww_iconst C (v := nI 0) dX7_lay_33 (by decide) ?_
      refine ww_istore1 C dX7_lay_34 (by decide) rfl ?_
      have lp35 : ∀ (m : Nat) (i : Nat) (C1 : Nat → Nat → Nat) (u : Wd), i ≤ 8 → 8 < i + m → (∀ b, ¬ b = 1 → ¬ b = 2 → ¬ b = 3 → ¬ b = 5 → ¬ b = 6 → C1 b = B b) → C1 1 0 = B 1 1 → Cy (C1 2) (B 2) i 8 → Cy (C1 3) (B 3) i 8 → Cy (C1 5) (B 5) i 8 → Cy (C1 6) (B 6) i 8 → MO u C1 len P kn → fr w u 59 83 → WW g x 2 0 0 n u 35 [some (.ref 59), some (.int (nI i))] [] := by
        intro m
        induction m with
        | zero =>
          intro i C1 u hi0 hm hCo h10 h2c h3c h5c h6c hM hf
          exact absurd hm (by omega)
        | succ m ih35 =>
          intro i C1 u hi0 hm hCo h10 h2c h3c h5c h6c hM hf
          refine ww_iload1 C dX7_lay_35 ?_
          refine ww_bipush C (v := nI 8) dX7_lay_36 (by decide) ?_
          refine ww_icmpgeN C (by omega) (tgt := 107) dX7_lay_38 (by decide) (fun c38 => ?_) (fun c38 => ?_)
          · skip
            have ei : i = 8 := by omega
            subst ei
            refine ww_iconst C (v := nI 0) dX7_lay_107 (by decide) ?_
            refine ww_istore1 C dX7_lay_108 (by decide) rfl ?_
            have lp109 : ∀ (m : Nat) (i : Nat) (D : Nat → Nat → Nat) (u : Wd), i ≤ 48 → 48 < i + m → (∀ b, ¬ b = 4 → D b = C1 b) → Cy (D 4) (C1 4) i 48 → MO u D len P kn → fr w u 59 83 → WW g x 2 0 0 n u 109 [some (.ref 59), some (.int (nI i))] [] := by
              intro m
              induction m with
              | zero =>
                intro i D u hi0 hm hDo h4c hM hf
                exact absurd hm (by omega)
              | succ m ih109 =>
                intro i D u hi0 hm hDo h4c hM hf
                refine ww_iload1 C dX7_lay_109 ?_
                refine ww_bipush C (v := nI 48) dX7_lay_110 (by decide) ?_
                refine ww_icmpgeN C (by omega) (tgt := 136) dX7_lay_112 (by decide) (fun c112 => ?_) (fun c112 => ?_)
                · skip
                  have ei : i = 48 := by omega
                  subst ei
                  refine ww_iconst C (v := nI 0) dX7_lay_136 (by decide) ?_
                  refine ww_istore1 C dX7_lay_137 (by decide) rfl ?_
                  have lp138 : ∀ (m : Nat) (i : Nat) (E : Nat → Nat → Nat) (u : Wd), i ≤ 6 → 6 < i + m → (∀ b, ¬ b = 7 → ¬ b = 8 → ¬ b = 9 → E b = D b) → Cy (E 7) (D 7) i 6 → Cy (E 8) (D 8) i 6 → Cy (E 9) (D 9) i 6 → MO u E len P kn → fr w u 59 83 → WW g x 2 0 0 n u 138 [some (.ref 59), some (.int (nI i))] [] := by
                    intro m
                    induction m with
                    | zero =>
                      intro i E u hi0 hm hEo h7c h8c h9c hM hf
                      exact absurd hm (by omega)
                    | succ m ih138 =>
                      intro i E u hi0 hm hEo h7c h8c h9c hM hf
                      refine ww_iload1 C dX7_lay_138 ?_
                      refine ww_bipush C (v := nI 6) dX7_lay_139 (by decide) ?_
                      refine ww_icmpgeN C (by omega) (tgt := 195) dX7_lay_141 (by decide) (fun c141 => ?_) (fun c141 => ?_)
                      · skip
                        have ei : i = 6 := by omega
                        subst ei
                        refine ww_iconst C (v := nI 0) dX7_lay_195 (by decide) ?_
                        refine ww_istore1 C dX7_lay_196 (by decide) rfl ?_
                        have lp197 : ∀ (m : Nat) (i : Nat) (G : Nat → Nat → Nat) (u : Wd), i ≤ 3 → 3 < i + m → (∀ b, ¬ b = 10 → G b = E b) → Cy (G 10) (E 10) i 3 → MO u G len P kn → fr w u 59 83 → WW g x 2 0 0 n u 197 [some (.ref 59), some (.int (nI i))] [] := by
                          intro m
                          induction m with
                          | zero =>
                            intro i G u hi0 hm hGo hac hM hf
                            exact absurd hm (by omega)
                          | succ m ih197 =>
                            intro i G u hi0 hm hGo hac hM hf
                            refine ww_iload1 C dX7_lay_197 ?_
                            refine ww_iconst C (v := nI 3) dX7_lay_198 (by decide) ?_
                            refine ww_icmpgeN C (by omega) (tgt := 222) dX7_lay_199 (by decide) (fun c199 => ?_) (fun c199 => ?_)
                            · skip
                              have ei : i = 3 := by omega
                              subst ei
                              refine ww_aload0 C dX7_lay_222 ?_
                              refine ww_cV00q C hM.1 rfl (m_layHill g n u hM) kV_X7_83 ⟨Nat.le_of_ble_eq_true rfl, Nat.le_of_ble_eq_true rfl⟩ ⟨rfl, rfl⟩ ⟨Nat.le_of_ble_eq_true rfl, Nat.le_of_ble_eq_true rfl⟩ (Nat.le_of_ble_eq_true rfl) dX7_lay_223 (fun w3 hw3 => ?_)
                              obtain ⟨Z, hM, hf9, hZo, hZ1, hZ14⟩ := hw3
                              have hf := hf.tr hf9
                              obtain ⟨y1, y2, y3⟩ := hy ⟨c6, fun e => c15 (hDR.1.trans e)⟩
                              have hfin := lay_fin (hDR) y1 (hCo) h10 h2c h3c h5c h6c hDo h4c hEo h7c h8c h9c hGo hac hZo hZ1 hZ14
                              refine ww_aload0 C dX7_lay_226 ?_
                              refine ww_getf C fl_X7_13 hM.1 rfl dX7_lay_227 ?_
                              refine ww_iconst C (v := nI 0) dX7_lay_230 (by decide) ?_
                              refine ww_ialdN C hM.a1 (by decide) dX7_lay_231 (kk := ?_)
                              exact ww_riq C dX7_lay_232 rfl ⟨Nat.le_of_ble_eq_true rfl, Nat.le_of_ble_eq_true rfl⟩ (by unfold V_lay; rw [if_pos (And.intro c6 (fun e => c15 (hDR.1.trans e))), hfin.2.1]) ⟨by rw [y2, y3]; exact ⟨Z, P, hM, hln, by decide, fun j hj => (congrFun (hfin.1.trans hSm.1) j).trans (htx j hj), hfin.2.2.1, hfin.2.2.2.1, hfin.2.2.2.2.1 _, fun e => absurd e (by decide), fun e => absurd e (by decide)⟩, hf, fun _ => hfin.2.2.2.2.2⟩
                            · skip
                              refine ww_aload0 C dX7_lay_202 ?_
                              refine ww_getf C fl_X7_40 hM.1 rfl dX7_lay_203 ?_
                              refine ww_iload1 C dX7_lay_206 ?_
                              refine ww_aload0 C dX7_lay_207 ?_
                              refine ww_getf C fl_X7_40 hM.1 rfl dX7_lay_208 ?_
                              refine ww_iconst C (v := nI 3) dX7_lay_211 (by decide) ?_
                              refine ww_iload1 C dX7_lay_212 ?_
                              refine ww_iaddN C dX7_lay_213 ?_
                              refine ww_ialdN C hM.a10 (by omega) dX7_lay_214 (kk := ?_)
                              refine ww_iastN C hM.a10 (by omega) dX7_lay_215 (kk := fun w4 hw4 => ?_)
                              have hf : fr w w4 59 83 := hf.tr (fr.up hw4 (by omega) (by omega))
                              obtain ⟨A4, hM, e4, o4⟩ := hM.st 10 (by decide) hw4
                              refine ww_iincN1 C dX7_lay_216 (by decide) rfl ?_
                              refine ww_goto C (tgt := 197) dX7_lay_219 (by decide) ?_
                              exact ih197 (i + 1) A4 _ (by omega) (by omega) (fun b h4 => (o4 b h4).trans (hGo b h4)) (hac.s (by omega) e4) hM hf
                        exact lp197 (4) 0 E _ (by omega) (by omega) (fun _ _ => rfl) (Cy.rf _ 3) hM hf
                      · skip
                        refine ww_aload0 C dX7_lay_144 ?_
                        refine ww_getf C fl_X7_31 hM.1 rfl dX7_lay_145 ?_
                        refine ww_iload1 C dX7_lay_148 ?_
                        refine ww_aload0 C dX7_lay_149 ?_
                        refine ww_getf C fl_X7_31 hM.1 rfl dX7_lay_150 ?_
                        refine ww_bipush C (v := nI 6) dX7_lay_153 (by decide) ?_
                        refine ww_iload1 C dX7_lay_155 ?_
                        refine ww_iaddN C dX7_lay_156 ?_
                        refine ww_ialdN C hM.a7 (by omega) dX7_lay_157 (kk := ?_)
                        refine ww_iastN C hM.a7 (by omega) dX7_lay_158 (kk := fun w5 hw5 => ?_)
                        have hf : fr w w5 59 83 := hf.tr (fr.up hw5 (by omega) (by omega))
                        obtain ⟨A5, hM, e5, o5⟩ := hM.st 7 (by decide) hw5
                        refine ww_aload0 C dX7_lay_159 ?_
                        refine ww_getf C fl_X7_34 hM.1 rfl dX7_lay_160 ?_
                        refine ww_iload1 C dX7_lay_163 ?_
                        refine ww_aload0 C dX7_lay_164 ?_
                        refine ww_getf C fl_X7_34 hM.1 rfl dX7_lay_165 ?_
                        refine ww_bipush C (v := nI 6) dX7_lay_168 (by decide) ?_
                        refine ww_iload1 C dX7_lay_170 ?_
                        refine ww_iaddN C dX7_lay_171 ?_
                        refine ww_ialdN C hM.a8 (by omega) dX7_lay_172 (kk := ?_)
                        refine ww_iastN C hM.a8 (by omega) dX7_lay_173 (kk := fun w6 hw6 => ?_)
                        have hf : fr w w6 59 83 := hf.tr (fr.up hw6 (by omega) (by omega))
                        obtain ⟨A6, hM, e6, o6⟩ := hM.st 8 (by decide) hw6
                        refine ww_aload0 C dX7_lay_174 ?_
                        refine ww_getf C fl_X7_37 hM.1 rfl dX7_lay_175 ?_
                        refine ww_iload1 C dX7_lay_178 ?_
                        refine ww_aload0 C dX7_lay_179 ?_
                        refine ww_getf C fl_X7_37 hM.1 rfl dX7_lay_180 ?_
                        refine ww_bipush C (v := nI 6) dX7_lay_183 (by decide) ?_
                        refine ww_iload1 C dX7_lay_185 ?_
                        refine ww_iaddN C dX7_lay_186 ?_
                        refine ww_ialdN C hM.a9 (by omega) dX7_lay_187 (kk := ?_)
                        refine ww_iastN C hM.a9 (by omega) dX7_lay_188 (kk := fun w7 hw7 => ?_)
                        have hf : fr w w7 59 83 := hf.tr (fr.up hw7 (by omega) (by omega))
                        obtain ⟨A7, hM, e7, o7⟩ := hM.st 9 (by decide) hw7
                        refine ww_iincN1 C dX7_lay_189 (by decide) rfl ?_
                        refine ww_goto C (tgt := 138) dX7_lay_192 (by decide) ?_
                        exact ih138 (i + 1) A7 _ (by omega) (by omega) (fun b h1 h2 h3 => (o7 b h3).trans ((o6 b h2).trans ((o5 b h1).trans (hEo b h1 h2 h3)))) ((h7c.s (by omega) e5).eq ((o7 7 (by decide)).trans (o6 7 (by decide)))) (((h8c.eq (o5 8 (by decide))).s (by omega) e6).eq (o7 8 (by decide))) ((h9c.eq ((o6 9 (by decide)).trans (o5 9 (by decide)))).s (by omega) e7) hM hf
                  exact lp138 (7) 0 D _ (by omega) (by omega) (fun _ _ _ _ => rfl) (Cy.rf _ 6) (Cy.rf _ 6) (Cy.rf _ 6) hM hf
                · skip
                  refine ww_aload0 C dX7_lay_115 ?_
                  refine ww_getf C fl_X7_22 hM.1 rfl dX7_lay_116 ?_
                  refine ww_iload1 C dX7_lay_119 ?_
                  refine ww_aload0 C dX7_lay_120 ?_
                  refine ww_getf C fl_X7_22 hM.1 rfl dX7_lay_121 ?_
                  refine ww_bipush C (v := nI 48) dX7_lay_124 (by decide) ?_
                  refine ww_iload1 C dX7_lay_126 ?_
                  refine ww_iaddN C dX7_lay_127 ?_
                  refine ww_ialdN C hM.a4 (by omega) dX7_lay_128 (kk := ?_)
                  refine ww_iastN C hM.a4 (by omega) dX7_lay_129 (kk := fun w8 hw8 => ?_)
                  have hf : fr w w8 59 83 := hf.tr (fr.up hw8 (by omega) (by omega))
                  obtain ⟨A8, hM, e8, o8⟩ := hM.st 4 (by decide) hw8
                  refine ww_iincN1 C dX7_lay_130 (by decide) rfl ?_
                  refine ww_goto C (tgt := 109) dX7_lay_133 (by decide) ?_
                  exact ih109 (i + 1) A8 _ (by omega) (by omega) (fun b h4 => (o8 b h4).trans (hDo b h4)) (h4c.s (by omega) e8) hM hf
            exact lp109 (49) 0 C1 _ (by omega) (by omega) (fun _ _ => rfl) (Cy.rf _ 48) hM hf
          · skip
            refine ww_aload0 C dX7_lay_41 ?_
            refine ww_getf C fl_X7_16 hM.1 rfl dX7_lay_42 ?_
            refine ww_iload1 C dX7_lay_45 ?_
            refine ww_aload0 C dX7_lay_46 ?_
            refine ww_getf C fl_X7_16 hM.1 rfl dX7_lay_47 ?_
            refine ww_bipush C (v := nI 8) dX7_lay_50 (by decide) ?_
            refine ww_iload1 C dX7_lay_52 ?_
            refine ww_iaddN C dX7_lay_53 ?_
            refine ww_ialdN C hM.a2 (by omega) dX7_lay_54 (kk := ?_)
            refine ww_iastN C hM.a2 (by omega) dX7_lay_55 (kk := fun w9 hw9 => ?_)
            have hf : fr w w9 59 83 := hf.tr (fr.up hw9 (by omega) (by omega))
            obtain ⟨A9, hM, e9, o9⟩ := hM.st 2 (by decide) hw9
            refine ww_aload0 C dX7_lay_56 ?_
            refine ww_getf C fl_X7_19 hM.1 rfl dX7_lay_57 ?_
            refine ww_iload1 C dX7_lay_60 ?_
            refine ww_aload0 C dX7_lay_61 ?_
            refine ww_getf C fl_X7_19 hM.1 rfl dX7_lay_62 ?_
            refine ww_bipush C (v := nI 8) dX7_lay_65 (by decide) ?_
            refine ww_iload1 C dX7_lay_67 ?_
            refine ww_iaddN C dX7_lay_68 ?_
            refine ww_ialdN C hM.a3 (by omega) dX7_lay_69 (kk := ?_)
            refine ww_iastN C hM.a3 (by omega) dX7_lay_70 (kk := fun w10 hw10 => ?_)
            have hf : fr w w10 59 83 := hf.tr (fr.up hw10 (by omega) (by omega))
            obtain ⟨A10, hM, e10, o10⟩ := hM.st 3 (by decide) hw10
            refine ww_aload0 C dX7_lay_71 ?_
            refine ww_getf C fl_X7_25 hM.1 rfl dX7_lay_72 ?_
            refine ww_iload1 C dX7_lay_75 ?_
            refine ww_aload0 C dX7_lay_76 ?_
            refine ww_getf C fl_X7_25 hM.1 rfl dX7_lay_77 ?_
            refine ww_bipush C (v := nI 8) dX7_lay_80 (by decide) ?_
            refine ww_iload1 C dX7_lay_82 ?_
            refine ww_iaddN C dX7_lay_83 ?_
            refine ww_ialdN C hM.a5 (by omega) dX7_lay_84 (kk := ?_)
            refine ww_iastN C hM.a5 (by omega) dX7_lay_85 (kk := fun w11 hw11 => ?_)
            have hf : fr w w11 59 83 := hf.tr (fr.up hw11 (by omega) (by omega))
            obtain ⟨A11, hM, e11, o11⟩ := hM.st 5 (by decide) hw11
            refine ww_aload0 C dX7_lay_86 ?_
            refine ww_getf C fl_X7_28 hM.1 rfl dX7_lay_87 ?_
            refine ww_iload1 C dX7_lay_90 ?_
            refine ww_aload0 C dX7_lay_91 ?_
            refine ww_getf C fl_X7_28 hM.1 rfl dX7_lay_92 ?_
            refine ww_bipush C (v := nI 8) dX7_lay_95 (by decide) ?_
            refine ww_iload1 C dX7_lay_97 ?_
            refine ww_iaddN C dX7_lay_98 ?_
            refine ww_ialdN C hM.a6 (by omega) dX7_lay_99 (kk := ?_)
            refine ww_iastN C hM.a6 (by omega) dX7_lay_100 (kk := fun w12 hw12 => ?_)
            have hf : fr w w12 59 83 := hf.tr (fr.up hw12 (by omega) (by omega))
            obtain ⟨A12, hM, e12, o12⟩ := hM.st 6 (by decide) hw12
            refine ww_iincN1 C dX7_lay_101 (by decide) rfl ?_
            refine ww_goto C (tgt := 35) dX7_lay_104 (by decide) ?_
            exact ih35 (i + 1) A12 _ (by omega) (by omega) (fun b h1 h2 h3 h5 h6 => (o12 b h6).trans ((o11 b h5).trans ((o10 b h3).trans ((o9 b h2).trans (hCo b h1 h2 h3 h5 h6))))) ((congrFun ((o12 1 (by decide)).trans ((o11 1 (by decide)).trans ((o10 1 (by decide)).trans (o9 1 (by decide))))) 0).trans h10) ((h2c.s (by omega) e9).eq ((o12 2 (by decide)).trans ((o11 2 (by decide)).trans (o10 2 (by decide))))) (((h3c.eq (o9 3 (by decide))).s (by omega) e10).eq ((o12 3 (by decide)).trans (o11 3 (by decide)))) (((h5c.eq ((o10 5 (by decide)).trans (o9 5 (by decide)))).s (by omega) e11).eq (o12 5 (by decide))) ((h6c.eq ((o11 6 (by decide)).trans ((o10 6 (by decide)).trans (o9 6 (by decide))))).s (by omega) e12) hM hf
      exact lp35 (9) 0 A2 _ (by omega) (by omega) (fun b h1 _ _ _ _ => o2 b h1) (up_at e2 rfl) ((Cy.rf _ 8).eq (o2 2 (by decide))) ((Cy.rf _ 8).eq (o2 3 (by decide))) ((Cy.rf _ 8).eq (o2 5 (by decide))) ((Cy.rf _ 8).eq (o2 6 (by decide))) hM hf
    · skip
      refine ww_bipush C (v := -2) dX7_lay_18 (by decide) ?_
      exact ww_riq C dX7_lay_20 rfl ⟨Nat.le_of_ble_eq_true rfl, Nat.le_of_ble_eq_true rfl⟩ (by unfold V_lay; rw [if_neg (fun e => e.2 (hDR.1.symm.trans c15))]) ⟨by obtain ⟨n1, n2, n3⟩ := hn (fun e => e.2 (hDR.1.symm.trans c15)); rw [n1, n2, n3]; exact ⟨B, P, hM, hRl.sm hB hBk hSm⟩, hf, fun e => absurd e (fun e => e.2 (hDR.1.symm.trans c15))⟩
