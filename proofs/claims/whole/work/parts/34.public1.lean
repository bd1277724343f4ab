theorem wb_of {a b : Nat} {x : Int32} (hb : b < 2147483648) (ha : a < 2147483648) (h : wb (nI a) (nI b) x = true) : ∃ j : Nat, a ≤ j ∧ j ≤ b ∧ x = nI j := by
  have h := of_decide_eq_true h
  rw [nI_toInt ha, nI_toInt hb] at h
  refine ⟨x.toInt.toNat, by omega, by omega, ?_⟩
  apply Int32.toInt_inj.mp
  rw [nI_toInt (by omega)]
  omega
theorem sw_out {x : Int32} {m : Nat} (hm : m < 1000) (h : ∀ k, k ≤ m → ¬ x = nI k) : x.toInt < 0 ∨ (m : Int) < x.toInt := by
  apply Classical.byContradiction
  intro c
  have h1 : x.toInt.toNat ≤ m := by omega
  apply h _ h1
  apply Int32.toInt_inj.mp
  rw [nI_toInt (by omega)]
  omega
theorem cl_nI {j : Nat} (h : j < 2147483648) : (nI j).toNatClampNeg = j := nI_clamp h
def V_write (len : Nat) (q : Int32) : Int32 := if wb (nI 1) (nI 8) q = true then (if len + q.toNatClampNeg ≤ 400 then nI (len + q.toNatClampNeg) else -3) else -1
def okW (len : Nat) (q : Int32) : Prop := wb (nI 1) (nI 8) q = true ∧ len + q.toNatClampNeg ≤ 400
noncomputable def T_write (t : Nat → Nat) (len : Nat) (q : Int32) (v : Int64) : Nat → Nat := if wb (nI 1) (nI 8) q = true ∧ len + q.toNatClampNeg ≤ 400 then ptN t len q.toNatClampNeg v q.toNatClampNeg else t
def L_write (len : Nat) (q : Int32) : Nat := if wb (nI 1) (nI 8) q = true ∧ len + q.toNatClampNeg ≤ 400 then len + q.toNatClampNeg else len
theorem d_write (g : Gx) (n : Nat) (w : Wd) {t : Nat → Nat} {len : Nat} {h : Hs} {a : Ms} {kn : Nat} {k1 k2 : Ms} (hR : CR w t len h a kn k1 k2) (q : Int32) (v : Int64) : CT g yX6_write cX6_write 4 (some .int) rm_X6_write n n w [.ref 0, .int q, .long v] (Rq (.int (V_write len q)) (fun w1 => CR w1 (T_write t len q v) (L_write len q) h a kn k1 k2 ∧ fr w w1 0 59)) := by
  obtain ⟨hi, dr, pl, nm, h', p1, p2, hC, hq1, hq2⟩ := id hR
  have hp8 : h.2.2.2.1 ≤ 8 := hC.2.2.2.2.2.1.2.1.2.2.2.2.1
  have hhd := hC.1
  have hlen := hC.2.2.1.2.2.2.1
  refine CT.start [some (.ref 0), some (.int q), some (.long v), none] (by decide +kernel) rfl (Nat.le_of_ble_eq_true rfl) (fun x C hnm => ?_)
  refine ww_iload1 C dX6_write_0 ?_
  refine ww_iconst C (v := nI 1) dX6_write_1 (by decide) ?_
  refine ww_bipush C (v := nI 8) dX6_write_2 (by decide) ?_
  refine ww_cS3v C (c_within g n w _ _ _) kS_X6_73 ⟨Nat.le_of_ble_eq_true rfl, Nat.le_of_ble_eq_true rfl⟩ ⟨rfl, rfl⟩ ⟨Nat.le_of_ble_eq_true rfl, Nat.le_of_ble_eq_true rfl⟩ (Nat.le_of_ble_eq_true rfl) dX6_write_4 ?_
  refine ww_ifneB C (tgt := 12) dX6_write_7 (by decide) (fun c7 => ?_) (fun c7 => ?_)
  · skip
    obtain ⟨j, hj1, hj8, rfl⟩ := wb_of (by decide) (by decide) c7
    have hcj : (nI j).toNatClampNeg = j := cl_nI (by omega)
    refine ww_aload0 C dX6_write_12 ?_
    refine ww_getf C fl_X6_10 hC.2.1 rfl dX6_write_13 ?_
    refine ww_iload1 C dX6_write_16 ?_
    refine ww_cV1v C hC.2.2.1.1 rfl (c_hasRoom g n w hC.2.2.1 (q := j) (by omega)) kV_X6_77 ⟨Nat.le_of_ble_eq_true rfl, Nat.le_of_ble_eq_true rfl⟩ ⟨rfl, rfl⟩ ⟨Nat.le_of_ble_eq_true rfl, Nat.le_of_ble_eq_true rfl⟩ (Nat.le_of_ble_eq_true rfl) dX6_write_17 ?_
    refine ww_ifneB C (tgt := 26) dX6_write_20 (by decide) (fun c20 => ?_) (fun c20 => ?_)
    · skip
      have c20 := of_decide_eq_true c20
      refine ww_aload0 C dX6_write_26 ?_
      refine ww_getf C fl_X6_10 hC.2.1 rfl dX6_write_27 ?_
      refine ww_iload1 C dX6_write_30 ?_
      refine ww_lload2 C dX6_write_31 ?_
      refine ww_cV20q C hC.2.2.1.1 rfl (c_put g n w hC.2.2.1 v (q := j) hj1 hj8 c20) kV_X6_81 ⟨Nat.le_of_ble_eq_true rfl, Nat.le_of_ble_eq_true rfl⟩ ⟨rfl, rfl⟩ ⟨Nat.le_of_ble_eq_true rfl, Nat.le_of_ble_eq_true rfl⟩ (Nat.le_of_ble_eq_true rfl) dX6_write_32 (fun w1 hw1 => ?_)
      obtain ⟨hS1, hf1⟩ := hw1
      have hC := hC.sc hS1 hf1
      refine ww_aload0 C dX6_write_35 ?_
      refine ww_getf C fl_X6_10 hC.2.1 rfl dX6_write_36 ?_
      refine ww_getf C fl_X6_85 hC.2.2.1.1 rfl dX6_write_39 ?_
      exact ww_riq C dX6_write_42 rfl ⟨Nat.le_of_ble_eq_true rfl, Nat.le_of_ble_eq_true rfl⟩ (by unfold V_write; rw [if_pos c7, hcj, if_pos c20]) ⟨by unfold T_write L_write; rw [hcj, if_pos ⟨c7, c20⟩, if_pos ⟨c7, c20⟩]; exact ⟨_, _, _, _, _, _, _, hC, hq1, hq2⟩, hf1.wide (by omega) (by omega)⟩
    · skip
      have c20 := of_decide_eq_false c20
      refine ww_bipush C (v := -3) dX6_write_23 (by decide) ?_
      exact ww_riq C dX6_write_25 rfl ⟨Nat.le_of_ble_eq_true rfl, Nat.le_of_ble_eq_true rfl⟩ (by unfold V_write; rw [if_pos c7, hcj, if_neg c20]) ⟨by unfold T_write L_write; rw [hcj, if_neg (fun e => c20 e.2), if_neg (fun e => c20 e.2)]; exact hR, fr.rf⟩
  · skip
    refine ww_iconst C (v := -1) dX6_write_10 (by decide) ?_
    exact ww_riq C dX6_write_11 rfl ⟨Nat.le_of_ble_eq_true rfl, Nat.le_of_ble_eq_true rfl⟩ (by unfold V_write; rw [if_neg (by rw [c7]; decide)]) ⟨by unfold T_write L_write; rw [if_neg (fun e => by rw [c7] at e; cases e.1), if_neg (fun e => by rw [c7] at e; cases e.1)]; exact hR, fr.rf⟩
theorem d_wipe (g : Gx) (n : Nat) (w : Wd) {t : Nat → Nat} {len : Nat} {h : Hs} {a : Ms} {kn : Nat} {k1 k2 : Ms} (hR : CR w t len h a kn k1 k2) : CT g yX6_wipe cX6_wipe 2 (some .int) rm_X6_wipe n n w [.ref 0] (Rq (.int (nI len)) (fun w1 => CR w1 t 0 h a kn k1 k2 ∧ fr w w1 0 59)) := by
  obtain ⟨hi, dr, pl, nm, h', p1, p2, hC, hq1, hq2⟩ := id hR
  have hp8 : h.2.2.2.1 ≤ 8 := hC.2.2.2.2.2.1.2.1.2.2.2.2.1
  have hhd := hC.1
  have hlen := hC.2.2.1.2.2.2.1
  have hpl := hC.2.2.1.2.2.2.2.1
  refine CT.start [some (.ref 0), none] (by decide +kernel) rfl (Nat.le_of_ble_eq_true rfl) (fun x C hnm => ?_)
  refine ww_aload0 C dX6_wipe_0 ?_
  refine ww_getf C fl_X6_10 hC.2.1 rfl dX6_wipe_1 ?_
  refine ww_getf C fl_X6_85 hC.2.2.1.1 rfl dX6_wipe_4 ?_
  refine ww_istore1 C dX6_wipe_7 (by decide) rfl ?_
  refine ww_aload0 C dX6_wipe_8 ?_
  refine ww_getf C fl_X6_10 hC.2.1 rfl dX6_wipe_9 ?_
  refine ww_iconst C (v := nI 0) dX6_wipe_12 (by decide) ?_
  refine ww_putI C fl_X6_85 hC.2.2.1.1 (Nat.le_of_ble_eq_true rfl) rfl dX6_wipe_13 (fun w1 hw1 => ?_)
  have hC := hC.sc (hC.2.2.1.setO hw1 (len2 := 0) (by omega)) (fr.up hw1 (by omega) (by omega))
  refine ww_iload1 C dX6_wipe_16 ?_
  exact ww_riq C dX6_wipe_17 rfl ⟨Nat.le_of_ble_eq_true rfl, Nat.le_of_ble_eq_true rfl⟩ rfl ⟨⟨_, _, _, _, _, _, _, hC, hq1, hq2⟩, fr.up hw1 (by omega) (by omega)⟩
theorem fr2.one {w w1 : Wd} {dr : Nat} (h : fr2 w w1 1 (1 + 3) dr (dr + 10)) (hd : dr = 4 ∨ dr = 14) : fr w w1 0 59 := fun j hj => h j (by omega) (by omega)
def V_person (h : Hs) (a : Ms) (i what : Int32) : Int32 := if hb h.2.2.2.1 i = true then (if what = nI 0 then nI (a.1 i.toNatClampNeg) else if what = nI 1 then nI (h.2.2.2.2.1 i.toNatClampNeg) else if what = nI 2 then nI (h.2.2.2.2.2.1 i.toNatClampNeg) else if what = nI 3 then nI (a.2.1 i.toNatClampNeg) else if what = nI 4 then nI (longN a.1 a.2.1 i.toNatClampNeg) else if what = nI 5 then nI (beatN a.1 a.2.1 a.2.2.1 h.2.2.2.2.2.2.2.2.1 i.toNatClampNeg) else -1) else -1
def V_said (h : Hs) (a : Ms) (i k : Int32) : Int32 := if hb h.2.2.2.1 i = true ∧ wb (nI 0) (nI 19) k = true then (if k.toNatClampNeg < longN a.1 a.2.1 i.toNatClampNeg then nI (saidN a.2.1 a.2.2.1 i.toNatClampNeg k.toNatClampNeg) else -4) else -1
def V_kind (h : Hs) (a : Ms) (i k : Int32) : Int32 := if hb h.2.2.2.1 i = true ∧ wb (nI 0) (nI 3) k = true then nI (a.1 i.toNatClampNeg) else -1
def A_kind (h : Hs) (a : Ms) (i k : Int32) : Ms := if hb h.2.2.2.1 i = true ∧ wb (nI 0) (nI 3) k = true then (va_up a.1 i.toNatClampNeg k.toNatClampNeg, a.2) else a
def V_deed (h : Hs) (a : Ms) (i d : Int32) : Int32 := if hb h.2.2.2.1 i = true ∧ wb (nI 0) (nI 5) d = true then (if dB a.2.1 h.2.2.2.2.2.2.2.1 d.toNatClampNeg i.toNatClampNeg = true then nI (dM a.2.1 h.2.2.2.2.2.2.2.1 d.toNatClampNeg i.toNatClampNeg i.toNatClampNeg) else -3) else -1
def A_deed (h : Hs) (a : Ms) (i d : Int32) : Ms := if hb h.2.2.2.1 i = true ∧ wb (nI 0) (nI 5) d = true then (a.1, dM a.2.1 h.2.2.2.2.2.2.2.1 d.toNatClampNeg i.toNatClampNeg, dS a.2.1 a.2.2.1 h.2.2.2.2.2.2.2.1 h.2.2.2.2.2.2.1 d.toNatClampNeg i.toNatClampNeg, a.2.2.2) else a
theorem d_person (g : Gx) (n : Nat) (w : Wd) {t : Nat → Nat} {len : Nat} {h : Hs} {a : Ms} {kn : Nat} {k1 k2 : Ms} (hR : CR w t len h a kn k1 k2) (i what : Int32) : CT g yX6_person cX6_person 3 (some .int) rm_X6_person n n w [.ref 0, .int i, .int what] (Rq (.int (V_person h a i what)) (fun w1 => CR w1 t len h a kn k1 k2 ∧ fr w w1 0 59)) := by
  obtain ⟨hi, dr, pl, nm, h', p1, p2, hC, hq1, hq2⟩ := id hR
  have hp8 : h.2.2.2.1 ≤ 8 := hC.2.2.2.2.2.1.2.1.2.2.2.2.1
  have hhd := hC.1
  have hlen := hC.2.2.1.2.2.2.1
  refine CT.start [some (.ref 0), some (.int i), some (.int what)] (by decide +kernel) rfl (Nat.le_of_ble_eq_true rfl) (fun x C hnm => ?_)
  refine ww_aload0 C dX6_person_0 ?_
  refine ww_getf C fl_X6_29 hC.2.1 rfl dX6_person_1 ?_
  refine ww_getf C fl_X6_65 hC.2.2.2.2.2.1.1 rfl dX6_person_4 ?_
  refine ww_iload1 C dX6_person_7 ?_
  refine ww_cV1v C hC.2.2.2.2.2.1.2.1.1 rfl (c_has g n w hC.2.2.2.2.2.1.2.1 _) kV_X6_104 ⟨Nat.le_of_ble_eq_true rfl, Nat.le_of_ble_eq_true rfl⟩ ⟨rfl, rfl⟩ ⟨Nat.le_of_ble_eq_true rfl, Nat.le_of_ble_eq_true rfl⟩ (Nat.le_of_ble_eq_true rfl) dX6_person_8 ?_
  refine ww_ifneB C (tgt := 16) dX6_person_11 (by decide) (fun c11 => ?_) (fun c11 => ?_)
  · skip
    obtain ⟨j, hj, rfl⟩ := hb_of c11
    have hcj : (nI j).toNatClampNeg = j := cl_nI (by omega)
    refine ww_iload2 C dX6_person_16 ?_
    by_cases e0 : what = nI 0
    · subst e0
      refine ww_tabIn C (tgt := 56) dX6_person_17 (by decide) (by decide) rfl (by decide) ?_
      refine ww_aload0 C dX6_person_56 ?_
      refine ww_getf C fl_X6_29 hC.2.1 rfl dX6_person_57 ?_
      refine ww_getf C fl_X6_65 hC.2.2.2.2.2.1.1 rfl dX6_person_60 ?_
      refine ww_iload1 C dX6_person_63 ?_
      refine ww_cV1v C hC.2.2.2.2.2.1.2.1.1 rfl (c_kindOf g n w hC.2.2.2.2.2.1.2.1 hj) kV_X6_107 ⟨Nat.le_of_ble_eq_true rfl, Nat.le_of_ble_eq_true rfl⟩ ⟨rfl, rfl⟩ ⟨Nat.le_of_ble_eq_true rfl, Nat.le_of_ble_eq_true rfl⟩ (Nat.le_of_ble_eq_true rfl) dX6_person_64 ?_
      exact ww_riq C dX6_person_67 rfl ⟨Nat.le_of_ble_eq_true rfl, Nat.le_of_ble_eq_true rfl⟩ (by unfold V_person; rw [if_pos c11, if_pos rfl, hcj]) ⟨hR, fr.rf⟩
    · skip
      by_cases e1 : what = nI 1
      · subst e1
        refine ww_tabIn C (tgt := 68) dX6_person_17 (by decide) (by decide) rfl (by decide) ?_
        refine ww_aload0 C dX6_person_68 ?_
        refine ww_getf C fl_X6_19 hC.2.1 rfl dX6_person_69 ?_
        refine ww_iload1 C dX6_person_72 ?_
        refine ww_cV1v C hC.2.2.2.1.1 rfl (c_pacesOf g n w hC.2.2.2.1 hj) kV_X6_111 ⟨Nat.le_of_ble_eq_true rfl, Nat.le_of_ble_eq_true rfl⟩ ⟨rfl, rfl⟩ ⟨Nat.le_of_ble_eq_true rfl, Nat.le_of_ble_eq_true rfl⟩ (Nat.le_of_ble_eq_true rfl) dX6_person_73 ?_
        exact ww_riq C dX6_person_76 rfl ⟨Nat.le_of_ble_eq_true rfl, Nat.le_of_ble_eq_true rfl⟩ (by unfold V_person; rw [if_pos c11, if_neg (by decide), if_pos rfl, hcj]) ⟨hR, fr.rf⟩
      · skip
        by_cases e2 : what = nI 2
        · subst e2
          refine ww_tabIn C (tgt := 77) dX6_person_17 (by decide) (by decide) rfl (by decide) ?_
          refine ww_aload0 C dX6_person_77 ?_
          refine ww_getf C fl_X6_19 hC.2.1 rfl dX6_person_78 ?_
          refine ww_iload1 C dX6_person_81 ?_
          refine ww_cV1v C hC.2.2.2.1.1 rfl (c_rankOf g n w hC.2.2.2.1 hj) kV_X6_114 ⟨Nat.le_of_ble_eq_true rfl, Nat.le_of_ble_eq_true rfl⟩ ⟨rfl, rfl⟩ ⟨Nat.le_of_ble_eq_true rfl, Nat.le_of_ble_eq_true rfl⟩ (Nat.le_of_ble_eq_true rfl) dX6_person_82 ?_
          exact ww_riq C dX6_person_85 rfl ⟨Nat.le_of_ble_eq_true rfl, Nat.le_of_ble_eq_true rfl⟩ (by unfold V_person; rw [if_pos c11, if_neg (by decide), if_neg (by decide), if_pos rfl, hcj]) ⟨hR, fr.rf⟩
        · skip
          by_cases e3 : what = nI 3
          · subst e3
            refine ww_tabIn C (tgt := 86) dX6_person_17 (by decide) (by decide) rfl (by decide) ?_
            refine ww_aload0 C dX6_person_86 ?_
            refine ww_getf C fl_X6_29 hC.2.1 rfl dX6_person_87 ?_
            refine ww_getf C fl_X6_65 hC.2.2.2.2.2.1.1 rfl dX6_person_90 ?_
            refine ww_iload1 C dX6_person_93 ?_
            refine ww_cV1v C hC.2.2.2.2.2.1.2.1.1 rfl (c_sizeOf g n w hC.2.2.2.2.2.1.2.1 hj) kV_X6_117 ⟨Nat.le_of_ble_eq_true rfl, Nat.le_of_ble_eq_true rfl⟩ ⟨rfl, rfl⟩ ⟨Nat.le_of_ble_eq_true rfl, Nat.le_of_ble_eq_true rfl⟩ (Nat.le_of_ble_eq_true rfl) dX6_person_94 ?_
            exact ww_riq C dX6_person_97 rfl ⟨Nat.le_of_ble_eq_true rfl, Nat.le_of_ble_eq_true rfl⟩ (by unfold V_person; rw [if_pos c11, if_neg (by decide), if_neg (by decide), if_neg (by decide), if_pos rfl, hcj]) ⟨hR, fr.rf⟩
          · skip
            by_cases e4 : what = nI 4
            · subst e4
              refine ww_tabIn C (tgt := 98) dX6_person_17 (by decide) (by decide) rfl (by decide) ?_
              refine ww_aload0 C dX6_person_98 ?_
              refine ww_getf C fl_X6_29 hC.2.1 rfl dX6_person_99 ?_
              refine ww_getf C fl_X6_65 hC.2.2.2.2.2.1.1 rfl dX6_person_102 ?_
              refine ww_iload1 C dX6_person_105 ?_
              refine ww_cV1v C hC.2.2.2.2.2.1.2.1.1 rfl (c_longOf g n w hC.2.2.2.2.2.1.2.1 hj) kV_X6_120 ⟨Nat.le_of_ble_eq_true rfl, Nat.le_of_ble_eq_true rfl⟩ ⟨rfl, rfl⟩ ⟨Nat.le_of_ble_eq_true rfl, Nat.le_of_ble_eq_true rfl⟩ (Nat.le_of_ble_eq_true rfl) dX6_person_106 ?_
              exact ww_riq C dX6_person_109 rfl ⟨Nat.le_of_ble_eq_true rfl, Nat.le_of_ble_eq_true rfl⟩ (by unfold V_person; rw [if_pos c11, if_neg (by decide), if_neg (by decide), if_neg (by decide), if_neg (by decide), if_pos rfl, hcj]) ⟨hR, fr.rf⟩
            · skip
              by_cases e5 : what = nI 5
              · subst e5
                refine ww_tabIn C (tgt := 110) dX6_person_17 (by decide) (by decide) rfl (by decide) ?_
                refine ww_aload0 C dX6_person_110 ?_
                refine ww_getf C fl_X6_19 hC.2.1 rfl dX6_person_111 ?_
                refine ww_aload0 C dX6_person_114 ?_
                refine ww_getf C fl_X6_29 hC.2.1 rfl dX6_person_115 ?_
                refine ww_getf C fl_X6_65 hC.2.2.2.2.2.1.1 rfl dX6_person_118 ?_
                refine ww_iload1 C dX6_person_121 ?_
                refine ww_cV2v C hC.2.2.2.1.1 rfl (c_beatsOf g n w hC.2.2.2.1 hC.2.2.2.2.2.1.2.1 hj) kV_X6_123 ⟨Nat.le_of_ble_eq_true rfl, Nat.le_of_ble_eq_true rfl⟩ ⟨rfl, rfl⟩ ⟨Nat.le_of_ble_eq_true rfl, Nat.le_of_ble_eq_true rfl⟩ (Nat.le_of_ble_eq_true rfl) dX6_person_122 ?_
                exact ww_riq C dX6_person_125 rfl ⟨Nat.le_of_ble_eq_true rfl, Nat.le_of_ble_eq_true rfl⟩ (by unfold V_person; rw [if_pos c11, if_neg (by decide), if_neg (by decide), if_neg (by decide), if_neg (by decide), if_neg (by decide), if_pos rfl, hcj]) ⟨hR, fr.rf⟩
              · skip
                refine ww_tabOut C (tgt := 126) dX6_person_17 (sw_out (m := 5) (by decide) (fun k hk => by rcases (show k = 0 ∨ k = 1 ∨ k = 2 ∨ k = 3 ∨ k = 4 ∨ k = 5 by omega) with rfl | rfl | rfl | rfl | rfl | rfl <;> assumption)) (by decide) ?_
                refine ww_iconst C (v := -1) dX6_person_126 (by decide) ?_
                exact ww_riq C dX6_person_127 rfl ⟨Nat.le_of_ble_eq_true rfl, Nat.le_of_ble_eq_true rfl⟩ (by unfold V_person; rw [if_pos c11, if_neg e0, if_neg e1, if_neg e2, if_neg e3, if_neg e4, if_neg e5]) ⟨hR, fr.rf⟩
  · skip
    refine ww_iconst C (v := -1) dX6_person_14 (by decide) ?_
    exact ww_riq C dX6_person_15 rfl ⟨Nat.le_of_ble_eq_true rfl, Nat.le_of_ble_eq_true rfl⟩ (by unfold V_person; rw [if_neg (by rw [c11]; decide)]) ⟨hR, fr.rf⟩
theorem d_said (g : Gx) (n : Nat) (w : Wd) {t : Nat → Nat} {len : Nat} {h : Hs} {a : Ms} {kn : Nat} {k1 k2 : Ms} (hR : CR w t len h a kn k1 k2) (i k : Int32) : CT g yX6_said cX6_said 3 (some .int) rm_X6_said n n w [.ref 0, .int i, .int k] (Rq (.int (V_said h a i k)) (fun w1 => CR w1 t len h a kn k1 k2 ∧ fr w w1 0 59)) := by
  obtain ⟨hi, dr, pl, nm, h', p1, p2, hC, hq1, hq2⟩ := id hR
  have hp8 : h.2.2.2.1 ≤ 8 := hC.2.2.2.2.2.1.2.1.2.2.2.2.1
  have hhd := hC.1
  have hlen := hC.2.2.1.2.2.2.1
  refine CT.start [some (.ref 0), some (.int i), some (.int k)] (by decide +kernel) rfl (Nat.le_of_ble_eq_true rfl) (fun x C hnm => ?_)
  refine ww_aload0 C dX6_said_0 ?_
  refine ww_getf C fl_X6_29 hC.2.1 rfl dX6_said_1 ?_
  refine ww_getf C fl_X6_65 hC.2.2.2.2.2.1.1 rfl dX6_said_4 ?_
  refine ww_iload1 C dX6_said_7 ?_
  refine ww_cV1v C hC.2.2.2.2.2.1.2.1.1 rfl (c_has g n w hC.2.2.2.2.2.1.2.1 _) kV_X6_104 ⟨Nat.le_of_ble_eq_true rfl, Nat.le_of_ble_eq_true rfl⟩ ⟨rfl, rfl⟩ ⟨Nat.le_of_ble_eq_true rfl, Nat.le_of_ble_eq_true rfl⟩ (Nat.le_of_ble_eq_true rfl) dX6_said_8 ?_
  refine ww_ifeqB C (tgt := 24) dX6_said_11 (by decide) (fun c11 => ?_) (fun c11 => ?_)
  · skip
    refine ww_iconst C (v := -1) dX6_said_24 (by decide) ?_
    exact ww_riq C dX6_said_25 rfl ⟨Nat.le_of_ble_eq_true rfl, Nat.le_of_ble_eq_true rfl⟩ (by unfold V_said; rw [if_neg (fun e => by rw [c11] at e; cases e.1)]) ⟨hR, fr.rf⟩
  · skip
    obtain ⟨j, hj, rfl⟩ := hb_of c11
    have hcj : (nI j).toNatClampNeg = j := cl_nI (by omega)
    refine ww_iload2 C dX6_said_14 ?_
    refine ww_iconst C (v := nI 0) dX6_said_15 (by decide) ?_
    refine ww_bipush C (v := nI 19) dX6_said_16 (by decide) ?_
    refine ww_cS3v C (c_within g n w _ _ _) kS_X6_73 ⟨Nat.le_of_ble_eq_true rfl, Nat.le_of_ble_eq_true rfl⟩ ⟨rfl, rfl⟩ ⟨Nat.le_of_ble_eq_true rfl, Nat.le_of_ble_eq_true rfl⟩ (Nat.le_of_ble_eq_true rfl) dX6_said_18 ?_
    refine ww_ifneB C (tgt := 26) dX6_said_21 (by decide) (fun c21 => ?_) (fun c21 => ?_)
    · skip
      obtain ⟨q, hq0, hqm, rfl⟩ := wb_of (by decide) (by decide) c21
      have hcq : (nI q).toNatClampNeg = q := cl_nI (by omega)
      refine ww_aload0 C dX6_said_26 ?_
      refine ww_getf C fl_X6_29 hC.2.1 rfl dX6_said_27 ?_
      refine ww_getf C fl_X6_65 hC.2.2.2.2.2.1.1 rfl dX6_said_30 ?_
      refine ww_iload1 C dX6_said_33 ?_
      refine ww_iload2 C dX6_said_34 ?_
      by_cases hl : q < longN a.1 a.2.1 j
      · refine ww_cV2v C hC.2.2.2.2.2.1.2.1.1 rfl (c_saidAt g n w hC.2.2.2.2.2.1.2.1 hj hl) kV_X6_127 ⟨Nat.le_of_ble_eq_true rfl, Nat.le_of_ble_eq_true rfl⟩ ⟨rfl, rfl⟩ ⟨Nat.le_of_ble_eq_true rfl, Nat.le_of_ble_eq_true rfl⟩ (Nat.le_of_ble_eq_true rfl) dX6_said_35 ?_
        exact ww_riq C dX6_said_38 rfl ⟨Nat.le_of_ble_eq_true rfl, Nat.le_of_ble_eq_true rfl⟩ (by unfold V_said; rw [if_pos ⟨c11, c21⟩, hcj, hcq, if_pos hl]) ⟨hR, fr.rf⟩
      · refine ww_cV2v C hC.2.2.2.2.2.1.2.1.1 rfl (c_saidAt0 g n w hC.2.2.2.2.2.1.2.1 hj hl (by omega)) kV_X6_127 ⟨Nat.le_of_ble_eq_true rfl, Nat.le_of_ble_eq_true rfl⟩ ⟨rfl, rfl⟩ ⟨Nat.le_of_ble_eq_true rfl, Nat.le_of_ble_eq_true rfl⟩ (Nat.le_of_ble_eq_true rfl) dX6_said_35 ?_
        exact ww_riq C dX6_said_38 rfl ⟨Nat.le_of_ble_eq_true rfl, Nat.le_of_ble_eq_true rfl⟩ (by unfold V_said; rw [if_pos ⟨c11, c21⟩, hcj, hcq, if_neg hl]) ⟨hR, fr.rf⟩
    · skip
      refine ww_iconst C (v := -1) dX6_said_24 (by decide) ?_
      exact ww_riq C dX6_said_25 rfl ⟨Nat.le_of_ble_eq_true rfl, Nat.le_of_ble_eq_true rfl⟩ (by unfold V_said; rw [if_neg (fun e => by rw [c21] at e; cases e.2)]) ⟨hR, fr.rf⟩
theorem d_kind (g : Gx) (n : Nat) (w : Wd) {t : Nat → Nat} {len : Nat} {h : Hs} {a : Ms} {kn : Nat} {k1 k2 : Ms} (hR : CR w t len h a kn k1 k2) (i k : Int32) : CT g yX6_kind cX6_kind 3 (some .int) rm_X6_kind n n w [.ref 0, .int i, .int k] (Rq (.int (V_kind h a i k)) (fun w1 => CR w1 t len h (A_kind h a i k) kn k1 k2 ∧ fr w w1 0 59)) := by
  obtain ⟨hi, dr, pl, nm, h', p1, p2, hC, hq1, hq2⟩ := id hR
  have hp8 : h.2.2.2.1 ≤ 8 := hC.2.2.2.2.2.1.2.1.2.2.2.2.1
  have hhd := hC.1
  have hlen := hC.2.2.1.2.2.2.1
  refine CT.start [some (.ref 0), some (.int i), some (.int k)] (by decide +kernel) rfl (Nat.le_of_ble_eq_true rfl) (fun x C hnm => ?_)
  refine ww_aload0 C dX6_kind_0 ?_
  refine ww_getf C fl_X6_29 hC.2.1 rfl dX6_kind_1 ?_
  refine ww_getf C fl_X6_65 hC.2.2.2.2.2.1.1 rfl dX6_kind_4 ?_
  refine ww_iload1 C dX6_kind_7 ?_
  refine ww_cV1v C hC.2.2.2.2.2.1.2.1.1 rfl (c_has g n w hC.2.2.2.2.2.1.2.1 _) kV_X6_104 ⟨Nat.le_of_ble_eq_true rfl, Nat.le_of_ble_eq_true rfl⟩ ⟨rfl, rfl⟩ ⟨Nat.le_of_ble_eq_true rfl, Nat.le_of_ble_eq_true rfl⟩ (Nat.le_of_ble_eq_true rfl) dX6_kind_8 ?_
  refine ww_ifeqB C (tgt := 23) dX6_kind_11 (by decide) (fun c11 => ?_) (fun c11 => ?_)
  · skip
    refine ww_iconst C (v := -1) dX6_kind_23 (by decide) ?_
    exact ww_riq C dX6_kind_24 rfl ⟨Nat.le_of_ble_eq_true rfl, Nat.le_of_ble_eq_true rfl⟩ (by unfold V_kind; rw [if_neg (fun e => by rw [c11] at e; cases e.1)]) ⟨by unfold A_kind; rw [if_neg (fun e => by rw [c11] at e; cases e.1)]; exact hR, fr.rf⟩
  · skip
    obtain ⟨j, hj, rfl⟩ := hb_of c11
    have hcj : (nI j).toNatClampNeg = j := cl_nI (by omega)
    refine ww_iload2 C dX6_kind_14 ?_
    refine ww_iconst C (v := nI 0) dX6_kind_15 (by decide) ?_
    refine ww_iconst C (v := nI 3) dX6_kind_16 (by decide) ?_
    refine ww_cS3v C (c_within g n w _ _ _) kS_X6_73 ⟨Nat.le_of_ble_eq_true rfl, Nat.le_of_ble_eq_true rfl⟩ ⟨rfl, rfl⟩ ⟨Nat.le_of_ble_eq_true rfl, Nat.le_of_ble_eq_true rfl⟩ (Nat.le_of_ble_eq_true rfl) dX6_kind_17 ?_
    refine ww_ifneB C (tgt := 25) dX6_kind_20 (by decide) (fun c21 => ?_) (fun c21 => ?_)
    · skip
      obtain ⟨q, hq0, hqm, rfl⟩ := wb_of (by decide) (by decide) c21
      have hcq : (nI q).toNatClampNeg = q := cl_nI (by omega)
      refine ww_aload0 C dX6_kind_25 ?_
      refine ww_getf C fl_X6_29 hC.2.1 rfl dX6_kind_26 ?_
      refine ww_getf C fl_X6_65 hC.2.2.2.2.2.1.1 rfl dX6_kind_29 ?_
      refine ww_iload1 C dX6_kind_32 ?_
      refine ww_iload2 C dX6_kind_33 ?_
      obtain ⟨u1, hN1, hf1, hc1⟩ := c_changeKind g n w hC.2.2.2.2.2.1.2.1 (i := j) (t := q) hj hqm
      refine ww_cV2v C hC.2.2.2.2.2.1.2.1.1 rfl (hc1) kV_X6_135 ⟨Nat.le_of_ble_eq_true rfl, Nat.le_of_ble_eq_true rfl⟩ ⟨rfl, rfl⟩ ⟨Nat.le_of_ble_eq_true rfl, Nat.le_of_ble_eq_true rfl⟩ (Nat.le_of_ble_eq_true rfl) dX6_kind_34 ?_
      have hC := hC.now (a2 := (va_up a.1 j q, a.2)) (MY.setN hC.2.2.2.2.2.1 hN1 hf1) (hf1.wide (by omega) (by omega))
      exact ww_riq C dX6_kind_37 rfl ⟨Nat.le_of_ble_eq_true rfl, Nat.le_of_ble_eq_true rfl⟩ (by unfold V_kind; rw [if_pos ⟨c11, c21⟩, hcj]) ⟨by unfold A_kind; rw [if_pos ⟨c11, c21⟩, hcj, hcq]; exact ⟨_, _, _, _, _, _, _, hC, hq1, hq2⟩, hf1.wide (by omega) (by omega)⟩
    · skip
      refine ww_iconst C (v := -1) dX6_kind_23 (by decide) ?_
      exact ww_riq C dX6_kind_24 rfl ⟨Nat.le_of_ble_eq_true rfl, Nat.le_of_ble_eq_true rfl⟩ (by unfold V_kind; rw [if_neg (fun e => by rw [c21] at e; cases e.2)]) ⟨by unfold A_kind; rw [if_neg (fun e => by rw [c21] at e; cases e.2)]; exact hR, fr.rf⟩
theorem d_deed (g : Gx) (n : Nat) (w : Wd) {t : Nat → Nat} {len : Nat} {h : Hs} {a : Ms} {kn : Nat} {k1 k2 : Ms} (hR : CR w t len h a kn k1 k2) (i d : Int32) : CT g yX6_deed cX6_deed 3 (some .int) rm_X6_deed n n w [.ref 0, .int i, .int d] (Rq (.int (V_deed h a i d)) (fun w1 => CR w1 t len h (A_deed h a i d) kn k1 k2 ∧ fr w w1 0 59)) := by
  obtain ⟨hi, dr, pl, nm, h', p1, p2, hC, hq1, hq2⟩ := id hR
  have hp8 : h.2.2.2.1 ≤ 8 := hC.2.2.2.2.2.1.2.1.2.2.2.2.1
  have hhd := hC.1
  have hlen := hC.2.2.1.2.2.2.1
  refine CT.start [some (.ref 0), some (.int i), some (.int d)] (by decide +kernel) rfl (Nat.le_of_ble_eq_true rfl) (fun x C hnm => ?_)
  refine ww_aload0 C dX6_deed_0 ?_
  refine ww_getf C fl_X6_29 hC.2.1 rfl dX6_deed_1 ?_
  refine ww_getf C fl_X6_65 hC.2.2.2.2.2.1.1 rfl dX6_deed_4 ?_
  refine ww_iload1 C dX6_deed_7 ?_
  refine ww_cV1v C hC.2.2.2.2.2.1.2.1.1 rfl (c_has g n w hC.2.2.2.2.2.1.2.1 _) kV_X6_104 ⟨Nat.le_of_ble_eq_true rfl, Nat.le_of_ble_eq_true rfl⟩ ⟨rfl, rfl⟩ ⟨Nat.le_of_ble_eq_true rfl, Nat.le_of_ble_eq_true rfl⟩ (Nat.le_of_ble_eq_true rfl) dX6_deed_8 ?_
  refine ww_ifeqB C (tgt := 23) dX6_deed_11 (by decide) (fun c11 => ?_) (fun c11 => ?_)
  · skip
    refine ww_iconst C (v := -1) dX6_deed_23 (by decide) ?_
    exact ww_riq C dX6_deed_24 rfl ⟨Nat.le_of_ble_eq_true rfl, Nat.le_of_ble_eq_true rfl⟩ (by unfold V_deed; rw [if_neg (fun e => by rw [c11] at e; cases e.1)]) ⟨by unfold A_deed; rw [if_neg (fun e => by rw [c11] at e; cases e.1)]; exact hR, fr.rf⟩
  · skip
    obtain ⟨j, hj, rfl⟩ := hb_of c11
    have hcj : (nI j).toNatClampNeg = j := cl_nI (by omega)
    refine ww_iload2 C dX6_deed_14 ?_
    refine ww_iconst C (v := nI 0) dX6_deed_15 (by decide) ?_
    refine ww_iconst C (v := nI 5) dX6_deed_16 (by decide) ?_
    refine ww_cS3v C (c_within g n w _ _ _) kS_X6_73 ⟨Nat.le_of_ble_eq_true rfl, Nat.le_of_ble_eq_true rfl⟩ ⟨rfl, rfl⟩ ⟨Nat.le_of_ble_eq_true rfl, Nat.le_of_ble_eq_true rfl⟩ (Nat.le_of_ble_eq_true rfl) dX6_deed_17 ?_
    refine ww_ifneB C (tgt := 25) dX6_deed_20 (by decide) (fun c21 => ?_) (fun c21 => ?_)
    · skip
      obtain ⟨q, hq0, hqm, rfl⟩ := wb_of (by decide) (by decide) c21
      have hcq : (nI q).toNatClampNeg = q := cl_nI (by omega)
      refine ww_aload0 C dX6_deed_25 ?_
      refine ww_getf C fl_X6_19 hC.2.1 rfl dX6_deed_26 ?_
      refine ww_aload0 C dX6_deed_29 ?_
      refine ww_getf C fl_X6_29 hC.2.1 rfl dX6_deed_30 ?_
      refine ww_getf C fl_X6_65 hC.2.2.2.2.2.1.1 rfl dX6_deed_33 ?_
      refine ww_iload1 C dX6_deed_36 ?_
      refine ww_iload2 C dX6_deed_37 ?_
      refine ww_cV3vq C hC.2.2.2.1.1 rfl (c_doDeed g n w hC.2.2.2.1 hC.2.2.2.2.2.1.2.1 (i := j) (d := q) hj (by omega)) kV_X6_131 ⟨Nat.le_of_ble_eq_true rfl, Nat.le_of_ble_eq_true rfl⟩ ⟨rfl, rfl⟩ ⟨Nat.le_of_ble_eq_true rfl, Nat.le_of_ble_eq_true rfl⟩ (Nat.le_of_ble_eq_true rfl) dX6_deed_38 (fun w1 hw1 => ?_)
      obtain ⟨hN1, hf1⟩ := hw1
      have hC := hC.now (a2 := (a.1, dM a.2.1 h.2.2.2.2.2.2.2.1 q j, dS a.2.1 a.2.2.1 h.2.2.2.2.2.2.2.1 h.2.2.2.2.2.2.1 q j, a.2.2.2)) (MY.setN hC.2.2.2.2.2.1 hN1 hf1) (hf1.wide (by omega) (by omega))
      refine ww_ifeqB C (tgt := 58) dX6_deed_41 (by decide) (fun c41 => ?_) (fun c41 => ?_)
      · skip
        refine ww_bipush C (v := -3) dX6_deed_58 (by decide) ?_
        exact ww_riq C dX6_deed_60 rfl ⟨Nat.le_of_ble_eq_true rfl, Nat.le_of_ble_eq_true rfl⟩ (by unfold V_deed; rw [if_pos ⟨c11, c21⟩, hcj, hcq, if_neg (by rw [c41]; decide)]) ⟨by unfold A_deed; rw [if_pos ⟨c11, c21⟩, hcj, hcq]; exact ⟨_, _, _, _, _, _, _, hC, hq1, hq2⟩, hf1.wide (by omega) (by omega)⟩
      · skip
        refine ww_aload0 C dX6_deed_44 ?_
        refine ww_getf C fl_X6_29 hC.2.1 rfl dX6_deed_45 ?_
        refine ww_getf C fl_X6_65 hC.2.2.2.2.2.1.1 rfl dX6_deed_48 ?_
        refine ww_iload1 C dX6_deed_51 ?_
        refine ww_cV1v C hC.2.2.2.2.2.1.2.1.1 rfl (c_sizeOf g n w1 hC.2.2.2.2.2.1.2.1 hj) kV_X6_117 ⟨Nat.le_of_ble_eq_true rfl, Nat.le_of_ble_eq_true rfl⟩ ⟨rfl, rfl⟩ ⟨Nat.le_of_ble_eq_true rfl, Nat.le_of_ble_eq_true rfl⟩ (Nat.le_of_ble_eq_true rfl) dX6_deed_52 ?_
        refine ww_goto C (tgt := 60) dX6_deed_55 (by decide) ?_
        exact ww_riq C dX6_deed_60 rfl ⟨Nat.le_of_ble_eq_true rfl, Nat.le_of_ble_eq_true rfl⟩ (by unfold V_deed; rw [if_pos ⟨c11, c21⟩, hcj, hcq, if_pos c41]) ⟨by unfold A_deed; rw [if_pos ⟨c11, c21⟩, hcj, hcq]; exact ⟨_, _, _, _, _, _, _, hC, hq1, hq2⟩, hf1.wide (by omega) (by omega)⟩
    · skip
      refine ww_iconst C (v := -1) dX6_deed_23 (by decide) ?_
      exact ww_riq C dX6_deed_24 rfl ⟨Nat.le_of_ble_eq_true rfl, Nat.le_of_ble_eq_true rfl⟩ (by unfold V_deed; rw [if_neg (fun e => by rw [c21] at e; cases e.2)]) ⟨by unfold A_deed; rw [if_neg (fun e => by rw [c21] at e; cases e.2)]; exact hR, fr.rf⟩
