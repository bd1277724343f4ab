theorem c_isHT (g : Gx) (n : Nat) (w : Wd) (z y : Int32) : CT g yX6_isHillTime cX6_isHillTime 2 (some .boolean) rm_X6_isHillTime n n w [.int z, .int y] (Rv (.int (bz (wb (nI 0) (nI 9999) z && wb (nI 0) (nI 60) y))) w) := by
  refine CT.start [some (.int z), some (.int y)] (by decide +kernel) rfl (Nat.le_of_ble_eq_true rfl) (fun x C hnm => ?_)
  refine ww_iload0 C dX6_isHillTime_0 ?_
  refine ww_iconst C (v := nI 0) dX6_isHillTime_1 (by decide) ?_
  refine ww_sipush C (v := nI 9999) dX6_isHillTime_2 (by decide) ?_
  refine ww_cS3v C (c_within g n w _ _ _) kS_X6_73 ⟨Nat.le_of_ble_eq_true rfl, Nat.le_of_ble_eq_true rfl⟩ ⟨rfl, rfl⟩ ⟨Nat.le_of_ble_eq_true rfl, Nat.le_of_ble_eq_true rfl⟩ (Nat.le_of_ble_eq_true rfl) dX6_isHillTime_5 ?_
  refine ww_ifeqB C (tgt := 25) dX6_isHillTime_8 (by decide) (fun c8 => ?_) (fun c8 => ?_)
  · skip
    refine ww_iconst C (v := nI 0) dX6_isHillTime_25 (by decide) ?_
    exact ww_rz C dX6_isHillTime_26 rfl ⟨Nat.le_of_ble_eq_true rfl, Nat.le_of_ble_eq_true rfl⟩ (by rw [c8]; rfl) rfl
  · skip
    refine ww_iload1 C dX6_isHillTime_11 ?_
    refine ww_iconst C (v := nI 0) dX6_isHillTime_12 (by decide) ?_
    refine ww_bipush C (v := nI 60) dX6_isHillTime_13 (by decide) ?_
    refine ww_cS3v C (c_within g n w _ _ _) kS_X6_73 ⟨Nat.le_of_ble_eq_true rfl, Nat.le_of_ble_eq_true rfl⟩ ⟨rfl, rfl⟩ ⟨Nat.le_of_ble_eq_true rfl, Nat.le_of_ble_eq_true rfl⟩ (Nat.le_of_ble_eq_true rfl) dX6_isHillTime_15 ?_
    refine ww_ifeqB C (tgt := 25) dX6_isHillTime_18 (by decide) (fun c18 => ?_) (fun c18 => ?_)
    · skip
      refine ww_iconst C (v := nI 0) dX6_isHillTime_25 (by decide) ?_
      exact ww_rz C dX6_isHillTime_26 rfl ⟨Nat.le_of_ble_eq_true rfl, Nat.le_of_ble_eq_true rfl⟩ (by rw [c8, c18]; rfl) rfl
    · skip
      refine ww_iconst C (v := nI 1) dX6_isHillTime_21 (by decide) ?_
      refine ww_goto C (tgt := 26) dX6_isHillTime_22 (by decide) ?_
      exact ww_rz C dX6_isHillTime_26 rfl ⟨Nat.le_of_ble_eq_true rfl, Nat.le_of_ble_eq_true rfl⟩ (by rw [c8, c18]; rfl) rfl
def Y_ (h : Hs) (a : Ms) (z y : Nat) : (Nat → Nat) × (Nat → Nat) := outY h.2.2.2.2.2.2.2.1 h.2.2.2.2.2.2.1 z h.2.2.2.1 (a.2.1, a.2.2.1) y
def V_years (h : Hs) (a : Ms) (z y what : Int32) : Int32 := if (wb (nI 0) (nI 9999) z && wb (nI 0) (nI 60) y) = true ∧ wb (nI 0) (nI 2) what = true then (if what = nI 0 then nI (cryN h.2.2.2.1 (longN a.1 (Y_ h a z.toNatClampNeg y.toNatClampNeg).1) (beatN a.1 (Y_ h a z.toNatClampNeg y.toNatClampNeg).1 (Y_ h a z.toNatClampNeg y.toNatClampNeg).2 h.2.2.2.2.2.2.2.2.1) h.2.2.2.2.2.2.2.2.2.1 h.2.2.2.2.2.2.2.2.2.2.1 (2 ^ h.2.2.2.1 - 1)) else if what = nI 1 then nI (maxN (longN a.1 (Y_ h a z.toNatClampNeg y.toNatClampNeg).1) h.2.2.2.1) else nI (cnN (fun i => tb (2 ^ h.2.2.2.1 - 1) i && (shortN a.1 (Y_ h a z.toNatClampNeg y.toNatClampNeg).1 (Y_ h a z.toNatClampNeg y.toNatClampNeg).2 h.2.2.2.1 (2 ^ h.2.2.2.1 - 1) i).isSome) h.2.2.2.1)) else -1
def V_then (h : Hs) (a : Ms) (z y i k : Int32) : Int32 := if (wb (nI 0) (nI 9999) z && wb (nI 0) (nI 60) y) = true ∧ hb h.2.2.2.1 i = true ∧ wb (nI 0) (nI 9) k = true then (if k.toNatClampNeg < (Y_ h a z.toNatClampNeg y.toNatClampNeg).1 i.toNatClampNeg then nI ((Y_ h a z.toNatClampNeg y.toNatClampNeg).2 (10 * i.toNatClampNeg + k.toNatClampNeg)) else -4) else -1
theorem ht_of {z y : Int32} (c : (wb (nI 0) (nI 9999) z && wb (nI 0) (nI 60) y) = true) : ∃ z1 y1 : Nat, z1 ≤ 9999 ∧ y1 ≤ 60 ∧ z = nI z1 ∧ y = nI y1 ∧ (nI z1).toNatClampNeg = z1 ∧ (nI y1).toNatClampNeg = y1 := by
  rw [Bool.and_eq_true] at c
  obtain ⟨z1, -, h1, h2⟩ := wb_of (by decide) (by decide) c.1
  obtain ⟨y1, -, h3, h4⟩ := wb_of (by decide) (by decide) c.2
  exact ⟨z1, y1, h1, h3, h2, h4, cl_nI (by omega), cl_nI (by omega)⟩
theorem d_years (g : Gx) (n : Nat) (w : Wd) {t : Nat → Nat} {len : Nat} {h : Hs} {a : Ms} {kn : Nat} {k1 k2 : Ms} (hR : CR w t len h a kn k1 k2) (z y what : Int32) (hb1 : 1 ≤ h.2.2.2.2.2.2.2.2.2.1) : CT g yX6_years cX6_years 4 (some .int) rm_X6_years n n w [.ref 0, .int z, .int y, .int what] (Rq (.int (V_years h a z y what)) (fun w1 => CR w1 t len h a kn k1 k2 ∧ fr w w1 0 59)) := by
  obtain ⟨hi, dr, pl, nm, h', p1, p2, hC, hq1, hq2⟩ := id hR
  have hp8 : h.2.2.2.1 ≤ 8 := hC.2.2.2.2.2.1.2.1.2.2.2.2.1
  have hhd := hC.1
  have hlen := hC.2.2.1.2.2.2.1
  obtain ⟨K9, M9, S9, p9, hTr⟩ := hC.2.2.2.2.2.2.2.2.2.1
  have h256 := p256 hp8
  have h2p := Nat.two_pow_pos h.2.2.2.1
  refine CT.start [some (.ref 0), some (.int z), some (.int y), some (.int what)] (by decide +kernel) rfl (Nat.le_of_ble_eq_true rfl) (fun x C hnm => ?_)
  refine ww_iload1 C dX6_years_0 ?_
  refine ww_iload2 C dX6_years_1 ?_
  refine ww_cS2v C (c_isHT g n w z y) kS_X6_204 ⟨Nat.le_of_ble_eq_true rfl, Nat.le_of_ble_eq_true rfl⟩ ⟨rfl, rfl⟩ ⟨Nat.le_of_ble_eq_true rfl, Nat.le_of_ble_eq_true rfl⟩ (Nat.le_of_ble_eq_true rfl) dX6_years_2 ?_
  refine ww_ifeqB C (tgt := 17) dX6_years_5 (by decide) (fun c5 => ?_) (fun c5 => ?_)
  · skip
    refine ww_iconst C (v := -1) dX6_years_17 (by decide) ?_
    exact ww_riq C dX6_years_18 rfl ⟨Nat.le_of_ble_eq_true rfl, Nat.le_of_ble_eq_true rfl⟩ (by unfold V_years; rw [if_neg (fun e => by rw [c5] at e; cases e.1)]) ⟨hR, fr.rf⟩
  · skip
    obtain ⟨z1, y1, hz1, hy1, rfl, rfl, hcz, hcy⟩ := ht_of c5
    refine ww_iload3 C dX6_years_8 ?_
    refine ww_iconst C (v := nI 0) dX6_years_9 (by decide) ?_
    refine ww_iconst C (v := nI 2) dX6_years_10 (by decide) ?_
    refine ww_cS3v C (c_within g n w _ _ _) kS_X6_73 ⟨Nat.le_of_ble_eq_true rfl, Nat.le_of_ble_eq_true rfl⟩ ⟨rfl, rfl⟩ ⟨Nat.le_of_ble_eq_true rfl, Nat.le_of_ble_eq_true rfl⟩ (Nat.le_of_ble_eq_true rfl) dX6_years_11 ?_
    refine ww_ifneB C (tgt := 19) dX6_years_14 (by decide) (fun c14 => ?_) (fun c14 => ?_)
    · skip
      obtain ⟨q, hq0, hqm, rfl⟩ := wb_of (by decide) (by decide) c14
      have hcq : (nI q).toNatClampNeg = q := cl_nI (by omega)
      refine ww_aload0 C dX6_years_19 ?_
      refine ww_getf C fl_X6_19 hC.2.1 rfl dX6_years_20 ?_
      refine ww_aload0 C dX6_years_23 ?_
      refine ww_getf C fl_X6_53 hC.2.1 rfl dX6_years_24 ?_
      refine ww_aload0 C dX6_years_27 ?_
      refine ww_getf C fl_X6_29 hC.2.1 rfl dX6_years_28 ?_
      refine ww_getf C fl_X6_65 hC.2.2.2.2.2.1.1 rfl dX6_years_31 ?_
      refine ww_iload1 C dX6_years_34 ?_
      refine ww_iload2 C dX6_years_35 ?_
      refine ww_cV40q C hC.2.2.2.1.1 rfl (c_liveYears g n w hC.2.2.2.1 hTr hC.2.2.2.2.2.1.2.1 (by omega) (by omega) hz1 hy1) kV_X6_207 ⟨Nat.le_of_ble_eq_true rfl, Nat.le_of_ble_eq_true rfl⟩ ⟨rfl, rfl⟩ ⟨Nat.le_of_ble_eq_true rfl, Nat.le_of_ble_eq_true rfl⟩ (Nat.le_of_ble_eq_true rfl) dX6_years_36 (fun w1 hw1 => ?_)
      obtain ⟨hTr, hf1⟩ := hw1
      have hC := hC.tr ⟨_, _, _, _, hTr⟩ hf1
      refine ww_iload3 C dX6_years_39 ?_
      rcases (show q = 0 ∨ q = 1 ∨ q = 2 by omega) with rfl | rfl | rfl
      · refine ww_look C (tgt := 68) dX6_years_40 (by decide) rfl (by decide) ?_
        refine ww_aload0 C dX6_years_68 ?_
        refine ww_getf C fl_X6_46 hC.2.1 rfl dX6_years_69 ?_
        refine ww_aload0 C dX6_years_72 ?_
        refine ww_getf C fl_X6_19 hC.2.1 rfl dX6_years_73 ?_
        refine ww_aload0 C dX6_years_76 ?_
        refine ww_getf C fl_X6_53 hC.2.1 rfl dX6_years_77 ?_
        obtain ⟨g1, g2, g3, g4, g5, g6, g7, g8, g9, g10, g11, g12, g13, hG⟩ := hC.2.2.2.2.2.2.2.2.1
        refine ww_cV20q C hG.1 rfl (c_learn g n w1 hG hC.2.2.2.1 hTr (by omega) (by omega)) kV_X6_141 ⟨Nat.le_of_ble_eq_true rfl, Nat.le_of_ble_eq_true rfl⟩ ⟨rfl, rfl⟩ ⟨Nat.le_of_ble_eq_true rfl, Nat.le_of_ble_eq_true rfl⟩ (Nat.le_of_ble_eq_true rfl) dX6_years_80 (fun w2 hw2 => ?_)
        obtain ⟨hG, hfl⟩ := hw2
        have hC := hC.g ⟨_, _, _, _, _, _, _, _, _, _, _, _, _, hG⟩ hfl
        refine ww_aload0 C dX6_years_83 ?_
        refine ww_getf C fl_X6_46 hC.2.1 rfl dX6_years_84 ?_
        refine ww_aload0 C dX6_years_87 ?_
        refine ww_cV0v C hC.2.1 rfl (c_everyone g n w2 hC) kV_X6_211 ⟨Nat.le_of_ble_eq_true rfl, Nat.le_of_ble_eq_true rfl⟩ ⟨rfl, rfl⟩ ⟨Nat.le_of_ble_eq_true rfl, Nat.le_of_ble_eq_true rfl⟩ (Nat.le_of_ble_eq_true rfl) dX6_years_88 ?_
        refine ww_cV1v C hG.1 rfl (c_beatsToCall g n w2 hG hb1 (by omega)) kV_X6_145 ⟨Nat.le_of_ble_eq_true rfl, Nat.le_of_ble_eq_true rfl⟩ ⟨rfl, rfl⟩ ⟨Nat.le_of_ble_eq_true rfl, Nat.le_of_ble_eq_true rfl⟩ (Nat.le_of_ble_eq_true rfl) dX6_years_91 ?_
        exact ww_riq C dX6_years_94 rfl ⟨Nat.le_of_ble_eq_true rfl, Nat.le_of_ble_eq_true rfl⟩ (by unfold V_years; rw [if_pos (And.intro c5 c14), if_pos rfl, hcz, hcy, cryN_c (fun i hi => filN_lt hi) (fun i hi => filN_lt hi)]; rfl) ⟨⟨_, _, _, _, _, _, _, hC, hq1, hq2⟩, (hf1.wide (by omega) (by omega)).tr (hfl.wide (by omega) (by omega))⟩
      · refine ww_look C (tgt := 95) dX6_years_40 (by decide) rfl (by decide) ?_
        refine ww_aload0 C dX6_years_95 ?_
        refine ww_getf C fl_X6_53 hC.2.1 rfl dX6_years_96 ?_
        refine ww_cV0v C hTr.1 rfl (c_longest g n w1 hTr) kV_X6_215 ⟨Nat.le_of_ble_eq_true rfl, Nat.le_of_ble_eq_true rfl⟩ ⟨rfl, rfl⟩ ⟨Nat.le_of_ble_eq_true rfl, Nat.le_of_ble_eq_true rfl⟩ (Nat.le_of_ble_eq_true rfl) dX6_years_99 ?_
        exact ww_riq C dX6_years_102 rfl ⟨Nat.le_of_ble_eq_true rfl, Nat.le_of_ble_eq_true rfl⟩ (by unfold V_years; rw [if_pos (And.intro c5 c14), if_neg (by decide), if_pos rfl, hcz, hcy]; rfl) ⟨⟨_, _, _, _, _, _, _, hC, hq1, hq2⟩, hf1.wide (by omega) (by omega)⟩
      · refine ww_look C (tgt := 103) dX6_years_40 (by decide) rfl (by decide) ?_
        refine ww_aload0 C dX6_years_103 ?_
        refine ww_getf C fl_X6_53 hC.2.1 rfl dX6_years_104 ?_
        refine ww_aload0 C dX6_years_107 ?_
        refine ww_cV0v C hC.2.1 rfl (c_everyone g n w1 hC) kV_X6_211 ⟨Nat.le_of_ble_eq_true rfl, Nat.le_of_ble_eq_true rfl⟩ ⟨rfl, rfl⟩ ⟨Nat.le_of_ble_eq_true rfl, Nat.le_of_ble_eq_true rfl⟩ (Nat.le_of_ble_eq_true rfl) dX6_years_108 ?_
        refine ww_cV1v C hTr.1 rfl (c_numberOfShort g n w1 hTr (by omega)) kV_X6_218 ⟨Nat.le_of_ble_eq_true rfl, Nat.le_of_ble_eq_true rfl⟩ ⟨rfl, rfl⟩ ⟨Nat.le_of_ble_eq_true rfl, Nat.le_of_ble_eq_true rfl⟩ (Nat.le_of_ble_eq_true rfl) dX6_years_111 ?_
        exact ww_riq C dX6_years_114 rfl ⟨Nat.le_of_ble_eq_true rfl, Nat.le_of_ble_eq_true rfl⟩ (by unfold V_years; rw [if_pos (And.intro c5 c14), if_neg (by decide), if_neg (by decide), hcz, hcy]; rfl) ⟨⟨_, _, _, _, _, _, _, hC, hq1, hq2⟩, hf1.wide (by omega) (by omega)⟩
    · skip
      refine ww_iconst C (v := -1) dX6_years_17 (by decide) ?_
      exact ww_riq C dX6_years_18 rfl ⟨Nat.le_of_ble_eq_true rfl, Nat.le_of_ble_eq_true rfl⟩ (by unfold V_years; rw [if_neg (fun e => by rw [c14] at e; cases e.2)]) ⟨hR, fr.rf⟩
theorem d_then (g : Gx) (n : Nat) (w : Wd) {t : Nat → Nat} {len : Nat} {h : Hs} {a : Ms} {kn : Nat} {k1 k2 : Ms} (hR : CR w t len h a kn k1 k2) (z y i k : Int32) : CT g yX6_then cX6_then 5 (some .int) rm_X6_then n n w [.ref 0, .int z, .int y, .int i, .int k] (Rq (.int (V_then h a z y i k)) (fun w1 => CR w1 t len h a kn k1 k2 ∧ fr w w1 0 59)) := by
  obtain ⟨hi, dr, pl, nm, h', p1, p2, hC, hq1, hq2⟩ := id hR
  have hp8 : h.2.2.2.1 ≤ 8 := hC.2.2.2.2.2.1.2.1.2.2.2.2.1
  have hhd := hC.1
  have hlen := hC.2.2.1.2.2.2.1
  obtain ⟨K9, M9, S9, p9, hTr⟩ := hC.2.2.2.2.2.2.2.2.2.1
  refine CT.start [some (.ref 0), some (.int z), some (.int y), some (.int i), some (.int k)] (by decide +kernel) rfl (Nat.le_of_ble_eq_true rfl) (fun x C hnm => ?_)
  refine ww_iload1 C dX6_then_0 ?_
  refine ww_iload2 C dX6_then_1 ?_
  refine ww_cS2v C (c_isHT g n w z y) kS_X6_204 ⟨Nat.le_of_ble_eq_true rfl, Nat.le_of_ble_eq_true rfl⟩ ⟨rfl, rfl⟩ ⟨Nat.le_of_ble_eq_true rfl, Nat.le_of_ble_eq_true rfl⟩ (Nat.le_of_ble_eq_true rfl) dX6_then_2 ?_
  refine ww_ifeqB C (tgt := 33) dX6_then_5 (by decide) (fun c5 => ?_) (fun c5 => ?_)
  · skip
    refine ww_iconst C (v := -1) dX6_then_33 (by decide) ?_
    exact ww_riq C dX6_then_34 rfl ⟨Nat.le_of_ble_eq_true rfl, Nat.le_of_ble_eq_true rfl⟩ (by unfold V_then; rw [if_neg (fun e => by rw [c5] at e; cases e.1)]) ⟨hR, fr.rf⟩
  · skip
    obtain ⟨z1, y1, hz1, hy1, rfl, rfl, hcz, hcy⟩ := ht_of c5
    refine ww_aload0 C dX6_then_8 ?_
    refine ww_getf C fl_X6_29 hC.2.1 rfl dX6_then_9 ?_
    refine ww_getf C fl_X6_65 hC.2.2.2.2.2.1.1 rfl dX6_then_12 ?_
    refine ww_iload3 C dX6_then_15 ?_
    refine ww_cV1v C hC.2.2.2.2.2.1.2.1.1 rfl (c_has g n w hC.2.2.2.2.2.1.2.1 _) kV_X6_104 ⟨Nat.le_of_ble_eq_true rfl, Nat.le_of_ble_eq_true rfl⟩ ⟨rfl, rfl⟩ ⟨Nat.le_of_ble_eq_true rfl, Nat.le_of_ble_eq_true rfl⟩ (Nat.le_of_ble_eq_true rfl) dX6_then_16 ?_
    refine ww_ifeqB C (tgt := 33) dX6_then_19 (by decide) (fun c19 => ?_) (fun c19 => ?_)
    · skip
      refine ww_iconst C (v := -1) dX6_then_33 (by decide) ?_
      exact ww_riq C dX6_then_34 rfl ⟨Nat.le_of_ble_eq_true rfl, Nat.le_of_ble_eq_true rfl⟩ (by unfold V_then; rw [if_neg (fun e => by rw [c19] at e; cases e.2.1)]) ⟨hR, fr.rf⟩
    · skip
      obtain ⟨j, hj, rfl⟩ := hb_of c19
      have hcj : (nI j).toNatClampNeg = j := cl_nI (by omega)
      refine ww_iload4 C dX6_then_22 ?_
      refine ww_iconst C (v := nI 0) dX6_then_24 (by decide) ?_
      refine ww_bipush C (v := nI 9) dX6_then_25 (by decide) ?_
      refine ww_cS3v C (c_within g n w _ _ _) kS_X6_73 ⟨Nat.le_of_ble_eq_true rfl, Nat.le_of_ble_eq_true rfl⟩ ⟨rfl, rfl⟩ ⟨Nat.le_of_ble_eq_true rfl, Nat.le_of_ble_eq_true rfl⟩ (Nat.le_of_ble_eq_true rfl) dX6_then_27 ?_
      refine ww_ifneB C (tgt := 35) dX6_then_30 (by decide) (fun c30 => ?_) (fun c30 => ?_)
      · skip
        obtain ⟨q, hq0, hqm, rfl⟩ := wb_of (by decide) (by decide) c30
        have hcq : (nI q).toNatClampNeg = q := cl_nI (by omega)
        refine ww_aload0 C dX6_then_35 ?_
        refine ww_getf C fl_X6_19 hC.2.1 rfl dX6_then_36 ?_
        refine ww_aload0 C dX6_then_39 ?_
        refine ww_getf C fl_X6_53 hC.2.1 rfl dX6_then_40 ?_
        refine ww_aload0 C dX6_then_43 ?_
        refine ww_getf C fl_X6_29 hC.2.1 rfl dX6_then_44 ?_
        refine ww_getf C fl_X6_65 hC.2.2.2.2.2.1.1 rfl dX6_then_47 ?_
        refine ww_iload1 C dX6_then_50 ?_
        refine ww_iload2 C dX6_then_51 ?_
        refine ww_cV40q C hC.2.2.2.1.1 rfl (c_liveYears g n w hC.2.2.2.1 hTr hC.2.2.2.2.2.1.2.1 (by omega) (by omega) hz1 hy1) kV_X6_207 ⟨Nat.le_of_ble_eq_true rfl, Nat.le_of_ble_eq_true rfl⟩ ⟨rfl, rfl⟩ ⟨Nat.le_of_ble_eq_true rfl, Nat.le_of_ble_eq_true rfl⟩ (Nat.le_of_ble_eq_true rfl) dX6_then_52 (fun w1 hw1 => ?_)
        obtain ⟨hTr, hf1⟩ := hw1
        have hC := hC.tr ⟨_, _, _, _, hTr⟩ hf1
        refine ww_aload0 C dX6_then_55 ?_
        refine ww_getf C fl_X6_53 hC.2.1 rfl dX6_then_56 ?_
        refine ww_iload3 C dX6_then_59 ?_
        refine ww_iload4 C dX6_then_60 ?_
        by_cases hl : q < (Y_ h a z1 y1).1 j
        · refine ww_cV2v C hTr.1 rfl (c_syllableAt g n w1 hTr hj hl) kV_X6_221 ⟨Nat.le_of_ble_eq_true rfl, Nat.le_of_ble_eq_true rfl⟩ ⟨rfl, rfl⟩ ⟨Nat.le_of_ble_eq_true rfl, Nat.le_of_ble_eq_true rfl⟩ (Nat.le_of_ble_eq_true rfl) dX6_then_62 ?_
          exact ww_riq C dX6_then_65 rfl ⟨Nat.le_of_ble_eq_true rfl, Nat.le_of_ble_eq_true rfl⟩ (by unfold V_then; rw [if_pos ⟨c5, c19, c30⟩, hcz, hcy, hcj, hcq, if_pos hl]; try rfl) ⟨⟨_, _, _, _, _, _, _, hC, hq1, hq2⟩, hf1.wide (by omega) (by omega)⟩
        · refine ww_cV2v C hTr.1 rfl (c_syllableAt0 g n w1 hTr hj hl (by omega)) kV_X6_221 ⟨Nat.le_of_ble_eq_true rfl, Nat.le_of_ble_eq_true rfl⟩ ⟨rfl, rfl⟩ ⟨Nat.le_of_ble_eq_true rfl, Nat.le_of_ble_eq_true rfl⟩ (Nat.le_of_ble_eq_true rfl) dX6_then_62 ?_
          exact ww_riq C dX6_then_65 rfl ⟨Nat.le_of_ble_eq_true rfl, Nat.le_of_ble_eq_true rfl⟩ (by unfold V_then; rw [if_pos ⟨c5, c19, c30⟩, hcz, hcy, hcj, hcq, if_neg hl]; try rfl) ⟨⟨_, _, _, _, _, _, _, hC, hq1, hq2⟩, hf1.wide (by omega) (by omega)⟩
      · skip
        refine ww_iconst C (v := -1) dX6_then_33 (by decide) ?_
        exact ww_riq C dX6_then_34 rfl ⟨Nat.le_of_ble_eq_true rfl, Nat.le_of_ble_eq_true rfl⟩ (by unfold V_then; rw [if_neg (fun e => by rw [c30] at e; cases e.2.2)]) ⟨hR, fr.rf⟩
def wtN (h : Hs) (a : Ms) (i : Nat) : Nat := likN a.2.2.2.1 a.2.2.2.2 a.1 a.2.1 a.2.2.1 h.2.2.2.2.2.2.2.2.2.2.2 i * (h.2.2.2.2.2.1 i + 1)
theorem prodN_le {f : Nat → Nat} (h : ∀ i, f i ≤ 10) : ∀ n, prodN f n ≤ 10 ^ n
  | 0 => Nat.le_refl _
  | n + 1 => by
    have := prodN_le h n
    show prodN f n * f n ≤ 10 ^ (n + 1)
    rw [Nat.pow_succ]
    exact Nat.mul_le_mul this (h n)
theorem likN_le {hd : Nat → Nat} {m : Nat} {K M S : Nat → Nat} {mi i : Nat} (hm : m ≤ 12) (hmi : mi ≤ 9) : likN hd m K M S mi i ≤ 1000000000000 := by
  unfold likN
  split
  · refine Nat.le_trans (prodN_le (fun q => ?_) m) (Nat.le_trans (Nat.pow_le_pow_right (by decide) hm) (by decide))
    repeat' split
    all_goals omega
  · omega
theorem wtN_le {h : Hs} {a : Ms} (hm : a.2.2.2.2 ≤ 12) (hmi : h.2.2.2.2.2.2.2.2.2.2.2 ≤ 9) (hR : ∀ i, h.2.2.2.2.2.1 i ≤ 9) (i : Nat) : wtN h a i ≤ 10000000000000 := by
  have h1 := likN_le (hd := a.2.2.2.1) (K := a.1) (M := a.2.1) (S := a.2.2.1) (i := i) hm hmi
  have h2 := hR i
  unfold wtN
  exact Nat.le_trans (Nat.mul_le_mul h1 (show h.2.2.2.2.2.1 i + 1 ≤ 10 by omega)) (by decide)
def cdN : Nat → Nat → Nat → Nat
  | 0, a, _ => a
  | f + 1, a, b => if b = 0 then a else cdN f b (a % b)
theorem c_weight (g : Gx) (n : Nat) (w : Wd) {hi dr len pl kn p1 p2 : Nat} {t nm : Nat → Nat} {h h' : Hs} {a k1 k2 : Ms} (hC : CX w hi dr t len pl nm h h' a kn k1 k2 p1 p2) {i : Nat} (hj : i < h.2.2.2.1) : CT g yX6_weightOf cX6_weightOf 2 (some .long) rm_X6_weightOf n n w [.ref 0, .int (nI i)] (Rv (.long (lN (wtN h a i))) w) := by
  refine CT.start [some (.ref 0), some (.int (nI i))] (by decide +kernel) rfl (Nat.le_of_ble_eq_true rfl) (fun x C hnm => ?_)
  refine ww_aload0 C dX6_weightOf_0 ?_
  refine ww_getf C fl_X6_29 hC.2.1 rfl dX6_weightOf_1 ?_
  refine ww_getf C fl_X6_95 hC.2.2.2.2.2.1.1 rfl dX6_weightOf_4 ?_
  refine ww_aload0 C dX6_weightOf_7 ?_
  refine ww_getf C fl_X6_29 hC.2.1 rfl dX6_weightOf_8 ?_
  refine ww_getf C fl_X6_65 hC.2.2.2.2.2.1.1 rfl dX6_weightOf_11 ?_
  refine ww_iload1 C dX6_weightOf_14 ?_
  refine ww_aload0 C dX6_weightOf_15 ?_
  refine ww_getf C fl_X6_19 hC.2.1 rfl dX6_weightOf_16 ?_
  refine ww_getf C fl_X6_237 hC.2.2.2.1.1 rfl dX6_weightOf_19 ?_
  refine ww_cV3v C hC.2.2.2.2.2.1.2.2.1 rfl (c_likeness g n w hC.2.2.2.2.2.1.2.2 hC.2.2.2.2.2.1.2.1 hj (hC.2.2.2.1.2.2.2.2.2.2.2.2.2.2.2.2.2.2)) kV_X6_240 ⟨Nat.le_of_ble_eq_true rfl, Nat.le_of_ble_eq_true rfl⟩ ⟨rfl, rfl⟩ ⟨Nat.le_of_ble_eq_true rfl, Nat.le_of_ble_eq_true rfl⟩ (Nat.le_of_ble_eq_true rfl) dX6_weightOf_22 ?_
  refine ww_aload0 C dX6_weightOf_25 ?_
  refine ww_getf C fl_X6_19 hC.2.1 rfl dX6_weightOf_26 ?_
  refine ww_iload1 C dX6_weightOf_29 ?_
  refine ww_cV1v C hC.2.2.2.1.1 rfl (c_rankOf g n w hC.2.2.2.1 hj) kV_X6_114 ⟨Nat.le_of_ble_eq_true rfl, Nat.le_of_ble_eq_true rfl⟩ ⟨rfl, rfl⟩ ⟨Nat.le_of_ble_eq_true rfl, Nat.le_of_ble_eq_true rfl⟩ (Nat.le_of_ble_eq_true rfl) dX6_weightOf_30 ?_
  refine ww_iconst C (v := nI 1) dX6_weightOf_33 (by decide) ?_
  refine ww_iaddN C dX6_weightOf_34 ?_
  refine ww_i2lN C (by have := hC.2.2.2.1.2.2.2.2.2.2.2.2.1 i; omega) dX6_weightOf_35 ?_
  refine ww_lmulN C dX6_weightOf_36 ?_
  exact ww_rl C dX6_weightOf_37 rfl ⟨Nat.le_of_ble_eq_true rfl, Nat.le_of_ble_eq_true rfl⟩ rfl rfl
theorem c_gcd (g : Gx) (n : Nat) (w : Wd) {a0 b0 : Nat} (ha0 : a0 < 9223372036854775808) (hb0 : b0 < 9223372036854775808) : CT g yX6_commonDivisor cX6_commonDivisor 7 (some .long) rm_X6_commonDivisor n n w [.long (lN a0), .long (lN b0)] (Rv (.long (lN (cdN 100 a0 b0))) w) := by
  refine CT.start [some (.long (lN a0)), none, some (.long (lN b0)), none, none, none, none] (by decide +kernel) rfl (Nat.le_of_ble_eq_true rfl) (fun x C hnm => ?_)
  refine ww_iconst C (v := nI 0) dX6_commonDivisor_0 (by decide) ?_
  refine ww_istore4 C dX6_commonDivisor_1 (by decide) rfl ?_
  have lp3 : ∀ (m : Nat) (c a b : Nat) (z5 z6 : Option Value), c ≤ 100 → 100 < c + m → a < 9223372036854775808 → b < 9223372036854775808 → cdN 100 a0 b0 = cdN (100 - c) a b → WW g x 7 0 0 n w 3 [some (.long (lN a)), none, some (.long (lN b)), none, some (.int (nI c)), z5, z6] [] := by
    intro m
    induction m with
    | zero =>
      intro c a b z5 z6 hc0 hm ha hb he
      exact absurd hm (by omega)
    | succ m ih3 =>
      intro c a b z5 z6 hc0 hm ha hb he
      refine ww_iload4 C dX6_commonDivisor_3 ?_
      refine ww_bipush C (v := nI 100) dX6_commonDivisor_5 (by decide) ?_
      refine ww_icmpgeN C (by omega) (tgt := 32) dX6_commonDivisor_7 (by decide) (fun c7 => ?_) (fun c7 => ?_)
      · skip
        refine ww_lload0 C dX6_commonDivisor_32 ?_
        exact ww_rl C dX6_commonDivisor_33 rfl ⟨Nat.le_of_ble_eq_true rfl, Nat.le_of_ble_eq_true rfl⟩ (by rw [he, show 100 - c = 0 by omega]; rfl) rfl
      · skip
        refine ww_lload2 C dX6_commonDivisor_10 ?_
        refine ww_lconst C (v := lN 0) dX6_commonDivisor_11 (by decide) ?_
        refine ww_lcmp C dX6_commonDivisor_12 ?_
        refine ww_ifeqC C (by omega) (tgt := 32) dX6_commonDivisor_13 (by decide) (fun c13 => ?_) (fun c13 => ?_)
        · skip
          refine ww_lload0 C dX6_commonDivisor_32 ?_
          exact ww_rl C dX6_commonDivisor_33 rfl ⟨Nat.le_of_ble_eq_true rfl, Nat.le_of_ble_eq_true rfl⟩ (by rw [he, show 100 - c = (99 - c) + 1 by omega]; show _ = lN (if b = 0 then _ else _); rw [if_pos c13]) rfl
        · skip
          refine ww_lload0 C dX6_commonDivisor_16 ?_
          refine ww_lload2 C dX6_commonDivisor_17 ?_
          refine ww_lremN C (by omega) dX6_commonDivisor_18 ?_
          refine ww_lstore5 C dX6_commonDivisor_19 (by decide) rfl ?_
          refine ww_lload2 C dX6_commonDivisor_21 ?_
          refine ww_lstore0 C dX6_commonDivisor_22 (by decide) ?_
          refine ww_lload5 C dX6_commonDivisor_23 ?_
          refine ww_lstore2 C dX6_commonDivisor_25 (by decide) rfl ?_
          refine ww_iincN4 C dX6_commonDivisor_26 (by decide) rfl ?_
          refine ww_goto C (tgt := 3) dX6_commonDivisor_29 (by decide) ?_
          exact ih3 (c + 1) b (a % b) _ _ (by omega) (by omega) hb (Nat.lt_of_le_of_lt (Nat.mod_le a b) ha) (by rw [he, show 100 - c = (100 - (c + 1)) + 1 by omega]; show (if b = 0 then _ else _) = _; rw [if_neg c13])
  exact lp3 (101) 0 a0 b0 _ _ (by omega) (by omega) ha0 hb0 rfl
def V_odds (h : Hs) (a : Ms) (i part : Int32) : Int64 := if hb h.2.2.2.1 i = true ∧ wb (nI 0) (nI 1) part = true then (if sumN (wtN h a) h.2.2.2.1 < 1 ∨ cdN 100 (sumN (wtN h a) h.2.2.2.1) (wtN h a i.toNatClampNeg) < 1 then -4 else if part = nI 0 then lN (wtN h a i.toNatClampNeg / cdN 100 (sumN (wtN h a) h.2.2.2.1) (wtN h a i.toNatClampNeg)) else lN (sumN (wtN h a) h.2.2.2.1 / cdN 100 (sumN (wtN h a) h.2.2.2.1) (wtN h a i.toNatClampNeg))) else -1
theorem cdN_le : ∀ (f a b : Nat), cdN f a b ≤ max a b
  | 0, a, b => Nat.le_max_left a b
  | f + 1, a, b => by
    show (if b = 0 then a else cdN f b (a % b)) ≤ _
    split
    · exact Nat.le_max_left a b
    · rename_i c
      have h1 := cdN_le f b (a % b)
      have h2 := Nat.mod_lt a (Nat.pos_of_ne_zero c)
      omega
/-- who has the greatest weight so far, and it -/
def mtN (f : Nat → Nat) : Nat → Option Nat × Nat
  | 0 => (none, 0)
  | n + 1 => if (mtN f n).2 < f n then (some n, f n) else mtN f n
theorem d_odds (g : Gx) (n : Nat) (w : Wd) {t : Nat → Nat} {len : Nat} {h : Hs} {a : Ms} {kn : Nat} {k1 k2 : Ms} (hR : CR w t len h a kn k1 k2) (i part : Int32) : CT g yX6_odds cX6_odds 9 (some .long) rm_X6_odds n n w [.ref 0, .int i, .int part] (Rq (.long (V_odds h a i part)) (fun w1 => CR w1 t len h a kn k1 k2 ∧ fr w w1 0 59)) := by
  obtain ⟨hi, dr, pl, nm, h', p1, p2, hC, hq1, hq2⟩ := id hR
  have hp8 : h.2.2.2.1 ≤ 8 := hC.2.2.2.2.2.1.2.1.2.2.2.2.1
  have hhd := hC.1
  have hlen := hC.2.2.1.2.2.2.1
  have hwt : ∀ i, wtN h a i ≤ 10000000000000 := wtN_le (hC.2.2.2.2.2.1.2.2.2.2.1) (hC.2.2.2.1.2.2.2.2.2.2.2.2.2.2.2.2.2.2) (hC.2.2.2.1.2.2.2.2.2.2.2.2.1)
  refine CT.start [some (.ref 0), some (.int i), some (.int part), none, none, none, none, none, none] (by decide +kernel) rfl (Nat.le_of_ble_eq_true rfl) (fun x C hnm => ?_)
  refine ww_aload0 C dX6_odds_0 ?_
  refine ww_getf C fl_X6_29 hC.2.1 rfl dX6_odds_1 ?_
  refine ww_getf C fl_X6_65 hC.2.2.2.2.2.1.1 rfl dX6_odds_4 ?_
  refine ww_iload1 C dX6_odds_7 ?_
  refine ww_cV1v C hC.2.2.2.2.2.1.2.1.1 rfl (c_has g n w hC.2.2.2.2.2.1.2.1 _) kV_X6_104 ⟨Nat.le_of_ble_eq_true rfl, Nat.le_of_ble_eq_true rfl⟩ ⟨rfl, rfl⟩ ⟨Nat.le_of_ble_eq_true rfl, Nat.le_of_ble_eq_true rfl⟩ (Nat.le_of_ble_eq_true rfl) dX6_odds_8 ?_
  refine ww_ifeqB C (tgt := 23) dX6_odds_11 (by decide) (fun c11 => ?_) (fun c11 => ?_)
  · skip
    refine ww_ldc2 C (v := -1) kc_X6_192 dX6_odds_23 ?_
    exact ww_rlq C dX6_odds_26 rfl ⟨Nat.le_of_ble_eq_true rfl, Nat.le_of_ble_eq_true rfl⟩ (by unfold V_odds; rw [if_neg (fun e => by rw [c11] at e; cases e.1)]) ⟨hR, fr.rf⟩
  · skip
    obtain ⟨j, hj, rfl⟩ := hb_of c11
    have hcj : (nI j).toNatClampNeg = j := cl_nI (by omega)
    refine ww_iload2 C dX6_odds_14 ?_
    refine ww_iconst C (v := nI 0) dX6_odds_15 (by decide) ?_
    refine ww_iconst C (v := nI 1) dX6_odds_16 (by decide) ?_
    refine ww_cS3v C (c_within g n w _ _ _) kS_X6_73 ⟨Nat.le_of_ble_eq_true rfl, Nat.le_of_ble_eq_true rfl⟩ ⟨rfl, rfl⟩ ⟨Nat.le_of_ble_eq_true rfl, Nat.le_of_ble_eq_true rfl⟩ (Nat.le_of_ble_eq_true rfl) dX6_odds_17 ?_
    refine ww_ifneB C (tgt := 27) dX6_odds_20 (by decide) (fun c20 => ?_) (fun c20 => ?_)
    · skip
      obtain ⟨q, hq0, hqm, rfl⟩ := wb_of (by decide) (by decide) c20
      have hcq : (nI q).toNatClampNeg = q := cl_nI (by omega)
      refine ww_lconst C (v := lN 0) dX6_odds_27 (by decide) ?_
      refine ww_lstore3 C dX6_odds_28 (by decide) rfl ?_
      refine ww_iconst C (v := nI 0) dX6_odds_29 (by decide) ?_
      refine ww_istore5 C dX6_odds_30 (by decide) rfl ?_
      have lp32 : ∀ (m : Nat) (i : Nat) (z6 z7 z8 : Option Value), i ≤ h.2.2.2.1 → h.2.2.2.1 < i + m → WW g x 9 0 0 n w 32 [some (.ref 0), some (.int (nI j)), some (.int (nI q)), some (.long (lN (sumN (wtN h a) i))), none, some (.int (nI i)), z6, z7, z8] [] := by
        intro m
        induction m with
        | zero =>
          intro i z6 z7 z8 hi0 hm
          exact absurd hm (by omega)
        | succ m ih32 =>
          intro i z6 z7 z8 hi0 hm
          refine ww_iload5 C dX6_odds_32 ?_
          refine ww_aload0 C dX6_odds_34 ?_
          refine ww_getf C fl_X6_29 hC.2.1 rfl dX6_odds_35 ?_
          refine ww_getf C fl_X6_65 hC.2.2.2.2.2.1.1 rfl dX6_odds_38 ?_
          refine ww_getf C fl_X6_92 hC.2.2.2.2.2.1.2.1.1 rfl dX6_odds_41 ?_
          refine ww_icmpgeN C (by omega) (tgt := 62) dX6_odds_44 (by decide) (fun c44 => ?_) (fun c44 => ?_)
          · skip
            have e : i = h.2.2.2.1 := by omega
            rw [e]
            refine ww_aload0 C dX6_odds_62 ?_
            refine ww_iload1 C dX6_odds_63 ?_
            refine ww_cV1v C hC.2.1 rfl (c_weight g n w hC hj) kV_X6_194 ⟨Nat.le_of_ble_eq_true rfl, Nat.le_of_ble_eq_true rfl⟩ ⟨rfl, rfl⟩ ⟨Nat.le_of_ble_eq_true rfl, Nat.le_of_ble_eq_true rfl⟩ (Nat.le_of_ble_eq_true rfl) dX6_odds_64 ?_
            refine ww_lstore5 C dX6_odds_67 (by decide) rfl ?_
            refine ww_lload3 C dX6_odds_69 ?_
            refine ww_lload5 C dX6_odds_70 ?_
            have hs8 := sumN_b (f := wtN h a) (b := 10000000000000) hwt hp8
            have hwj := hwt j
            have hcd := cdN_le 100 (sumN (wtN h a) h.2.2.2.1) (wtN h a j)
            refine ww_cS2v C (c_gcd g n w (by omega) (by omega)) kS_X6_198 ⟨Nat.le_of_ble_eq_true rfl, Nat.le_of_ble_eq_true rfl⟩ ⟨rfl, rfl⟩ ⟨Nat.le_of_ble_eq_true rfl, Nat.le_of_ble_eq_true rfl⟩ (Nat.le_of_ble_eq_true rfl) dX6_odds_72 ?_
            refine ww_lstore7 C dX6_odds_75 (by decide) rfl ?_
            refine ww_lload3 C dX6_odds_77 ?_
            refine ww_lconst C (v := lN 1) dX6_odds_78 (by decide) ?_
            refine ww_lcmp C dX6_odds_79 ?_
            refine ww_ifltC C (by omega) (tgt := 90) dX6_odds_80 (by decide) (fun c80 => ?_) (fun c80 => ?_)
            · skip
              refine ww_ldc2 C (v := -4) kc_X6_202 dX6_odds_90 ?_
              exact ww_rlq C dX6_odds_93 rfl ⟨Nat.le_of_ble_eq_true rfl, Nat.le_of_ble_eq_true rfl⟩ (by unfold V_odds; rw [if_pos (And.intro c11 c20), hcj, if_pos (Or.inl c80)]) ⟨hR, fr.rf⟩
            · skip
              refine ww_lload7 C dX6_odds_83 ?_
              refine ww_lconst C (v := lN 1) dX6_odds_85 (by decide) ?_
              refine ww_lcmp C dX6_odds_86 ?_
              refine ww_ifgeC C (by omega) (tgt := 94) dX6_odds_87 (by decide) (fun c87 => ?_) (fun c87 => ?_)
              · skip
                refine ww_iload2 C dX6_odds_94 ?_
                refine ww_ifneN C (by omega) (tgt := 106) dX6_odds_95 (by decide) (fun c95 => ?_) (fun c95 => ?_)
                · skip
                  refine ww_lload3 C dX6_odds_106 ?_
                  refine ww_lload7 C dX6_odds_107 ?_
                  refine ww_ldivN C (by omega) dX6_odds_109 ?_
                  exact ww_rlq C dX6_odds_110 rfl ⟨Nat.le_of_ble_eq_true rfl, Nat.le_of_ble_eq_true rfl⟩ (by unfold V_odds; rw [if_pos (And.intro c11 c20), hcj, if_neg (by omega), if_neg (fun e => c95 ((nI_eq (by omega) (by decide)).mp e))]) ⟨hR, fr.rf⟩
                · skip
                  refine ww_lload5 C dX6_odds_98 ?_
                  refine ww_lload7 C dX6_odds_100 ?_
                  refine ww_ldivN C (by omega) dX6_odds_102 ?_
                  refine ww_goto C (tgt := 110) dX6_odds_103 (by decide) ?_
                  exact ww_rlq C dX6_odds_110 rfl ⟨Nat.le_of_ble_eq_true rfl, Nat.le_of_ble_eq_true rfl⟩ (by unfold V_odds; rw [if_pos (And.intro c11 c20), hcj, if_neg (by omega), if_pos (by rw [c95])]) ⟨hR, fr.rf⟩
              · skip
                refine ww_ldc2 C (v := -4) kc_X6_202 dX6_odds_90 ?_
                exact ww_rlq C dX6_odds_93 rfl ⟨Nat.le_of_ble_eq_true rfl, Nat.le_of_ble_eq_true rfl⟩ (by unfold V_odds; rw [if_pos (And.intro c11 c20), hcj, if_pos (Or.inr c87)]) ⟨hR, fr.rf⟩
          · skip
            refine ww_lload3 C dX6_odds_47 ?_
            refine ww_aload0 C dX6_odds_48 ?_
            refine ww_iload5 C dX6_odds_49 ?_
            refine ww_cV1v C hC.2.1 rfl (c_weight g n w hC c44) kV_X6_194 ⟨Nat.le_of_ble_eq_true rfl, Nat.le_of_ble_eq_true rfl⟩ ⟨rfl, rfl⟩ ⟨Nat.le_of_ble_eq_true rfl, Nat.le_of_ble_eq_true rfl⟩ (Nat.le_of_ble_eq_true rfl) dX6_odds_51 ?_
            refine ww_laddN C dX6_odds_54 ?_
            refine ww_lstore3 C dX6_odds_55 (by decide) rfl ?_
            refine ww_iincN5 C dX6_odds_56 (by decide) rfl ?_
            refine ww_goto C (tgt := 32) dX6_odds_59 (by decide) ?_
            exact ih32 (i + 1) _ _ _ (by omega) (by omega)
      exact lp32 (h.2.2.2.1 + 1) 0 _ _ _ (by omega) (by omega)
    · skip
      refine ww_ldc2 C (v := -1) kc_X6_192 dX6_odds_23 ?_
      exact ww_rlq C dX6_odds_26 rfl ⟨Nat.le_of_ble_eq_true rfl, Nat.le_of_ble_eq_true rfl⟩ (by unfold V_odds; rw [if_neg (fun e => by rw [c20] at e; cases e.2)]) ⟨hR, fr.rf⟩
theorem d_meant (g : Gx) (n : Nat) (w : Wd) {t : Nat → Nat} {len : Nat} {h : Hs} {a : Ms} {kn : Nat} {k1 k2 : Ms} (hR : CR w t len h a kn k1 k2) : CT g yX6_meant cX6_meant 7 (some .int) rm_X6_meant n n w [.ref 0] (Rq (.int (oI (mtN (wtN h a) h.2.2.2.1).1)) (fun w1 => CR w1 t len h a kn k1 k2 ∧ fr w w1 0 59)) := by
  obtain ⟨hi, dr, pl, nm, h', p1, p2, hC, hq1, hq2⟩ := id hR
  have hp8 : h.2.2.2.1 ≤ 8 := hC.2.2.2.2.2.1.2.1.2.2.2.2.1
  have hhd := hC.1
  have hlen := hC.2.2.1.2.2.2.1
  have hwt : ∀ i, wtN h a i ≤ 10000000000000 := wtN_le (hC.2.2.2.2.2.1.2.2.2.2.1) (hC.2.2.2.1.2.2.2.2.2.2.2.2.2.2.2.2.2.2) (hC.2.2.2.1.2.2.2.2.2.2.2.2.1)
  refine CT.start [some (.ref 0), none, none, none, none, none, none] (by decide +kernel) rfl (Nat.le_of_ble_eq_true rfl) (fun x C hnm => ?_)
  refine ww_bipush C (v := -4) dX6_meant_0 (by decide) ?_
  refine ww_istore1 C dX6_meant_2 (by decide) rfl ?_
  refine ww_lconst C (v := lN 0) dX6_meant_3 (by decide) ?_
  refine ww_lstore2 C dX6_meant_4 (by decide) rfl ?_
  refine ww_iconst C (v := nI 0) dX6_meant_5 (by decide) ?_
  refine ww_istore4 C dX6_meant_6 (by decide) rfl ?_
  have lp8 : ∀ (m : Nat) (i : Nat) (o : Option Nat) (gr : Nat) (z5 z6 : Option Value), i ≤ h.2.2.2.1 → h.2.2.2.1 < i + m → (o, gr) = mtN (wtN h a) i → gr ≤ 10000000000000 → WW g x 7 0 0 n w 8 [some (.ref 0), some (.int (oI o)), some (.long (lN gr)), none, some (.int (nI i)), z5, z6] [] := by
    intro m
    induction m with
    | zero =>
      intro i o gr z5 z6 hi0 hm ho hg
      exact absurd hm (by omega)
    | succ m ih8 =>
      intro i o gr z5 z6 hi0 hm ho hg
      refine ww_iload4 C dX6_meant_8 ?_
      refine ww_aload0 C dX6_meant_10 ?_
      refine ww_getf C fl_X6_29 hC.2.1 rfl dX6_meant_11 ?_
      refine ww_getf C fl_X6_65 hC.2.2.2.2.2.1.1 rfl dX6_meant_14 ?_
      refine ww_getf C fl_X6_92 hC.2.2.2.2.2.1.2.1.1 rfl dX6_meant_17 ?_
      refine ww_icmpgeN C (by omega) (tgt := 50) dX6_meant_20 (by decide) (fun c20 => ?_) (fun c20 => ?_)
      · skip
        have e : i = h.2.2.2.1 := by omega
        rw [e] at ho
        refine ww_iload1 C dX6_meant_50 ?_
        exact ww_riq C dX6_meant_51 rfl ⟨Nat.le_of_ble_eq_true rfl, Nat.le_of_ble_eq_true rfl⟩ (by rw [← ho]) ⟨hR, fr.rf⟩
      · skip
        refine ww_aload0 C dX6_meant_23 ?_
        refine ww_iload4 C dX6_meant_24 ?_
        refine ww_cV1v C hC.2.1 rfl (c_weight g n w hC c20) kV_X6_194 ⟨Nat.le_of_ble_eq_true rfl, Nat.le_of_ble_eq_true rfl⟩ ⟨rfl, rfl⟩ ⟨Nat.le_of_ble_eq_true rfl, Nat.le_of_ble_eq_true rfl⟩ (Nat.le_of_ble_eq_true rfl) dX6_meant_26 ?_
        refine ww_lstore5 C dX6_meant_29 (by decide) rfl ?_
        refine ww_lload5 C dX6_meant_31 ?_
        refine ww_lload2 C dX6_meant_33 ?_
        refine ww_lcmp C dX6_meant_34 ?_
        refine ww_ifleC C (by have := hwt i; omega) (tgt := 44) dX6_meant_35 (by decide) (fun c35 => ?_) (fun c35 => ?_)
        · skip
          refine ww_iincN4 C dX6_meant_44 (by decide) rfl ?_
          refine ww_goto C (tgt := 8) dX6_meant_47 (by decide) ?_
          exact ih8 (i + 1) o gr _ _ (by omega) (by omega) (by show _ = if _ then _ else _; rw [← ho, if_neg (by show ¬ gr < wtN h a i; omega)]) hg
        · skip
          refine ww_iload4 C dX6_meant_38 ?_
          refine ww_istore1 C dX6_meant_40 (by decide) rfl ?_
          refine ww_lload5 C dX6_meant_41 ?_
          refine ww_lstore2 C dX6_meant_43 (by decide) rfl ?_
          refine ww_iincN4 C dX6_meant_44 (by decide) rfl ?_
          refine ww_goto C (tgt := 8) dX6_meant_47 (by decide) ?_
          exact ih8 (i + 1) (some i) (wtN h a i) _ _ (by omega) (by omega) (by show _ = if _ then _ else _; rw [← ho, if_pos (show gr < wtN h a i from c35)]) (hwt i)
  exact lp8 (h.2.2.2.1 + 1) 0 none 0 _ _ (by omega) (by omega) rfl (by omega)
