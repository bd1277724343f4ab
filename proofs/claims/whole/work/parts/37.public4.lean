def V_hear (hn : Nat) (s : Int32) : Int32 := if wb (nI 0) (nI 5) s = true ∨ s = nI 9 then (if hn < 12 then nI (hn + 1) else -3) else -1
def A_hear (a : Ms) (s : Int32) : Ms := if (wb (nI 0) (nI 5) s = true ∨ s = nI 9) ∧ a.2.2.2.2 < 12 then (a.1, a.2.1, a.2.2.1, va_up a.2.2.2.1 a.2.2.2.2 s.toNatClampNeg, a.2.2.2.2 + 1) else a
theorem d_hear (g : Gx) (n : Nat) (w : Wd) {t : Nat → Nat} {len : Nat} {h : Hs} {a : Ms} {kn : Nat} {k1 k2 : Ms} (hR : CR w t len h a kn k1 k2) (s : Int32) : CT g yX6_hear cX6_hear 2 (some .int) rm_X6_hear n n w [.ref 0, .int s] (Rq (.int (V_hear a.2.2.2.2 s)) (fun w1 => CR w1 t len h (A_hear a s) kn k1 k2 ∧ fr w w1 0 59)) := by
  obtain ⟨hi, dr, pl, nm, h', p1, p2, hC, hq1, hq2⟩ := id hR
  have hp8 : h.2.2.2.1 ≤ 8 := hC.2.2.2.2.2.1.2.1.2.2.2.2.1
  have hhd := hC.1
  have hlen := hC.2.2.1.2.2.2.1
  refine CT.start [some (.ref 0), some (.int s)] (by decide +kernel) rfl (Nat.le_of_ble_eq_true rfl) (fun x C hnm => ?_)
  refine ww_iload1 C dX6_hear_0 ?_
  refine ww_iconst C (v := nI 0) dX6_hear_1 (by decide) ?_
  refine ww_iconst C (v := nI 5) dX6_hear_2 (by decide) ?_
  refine ww_cS3v C (c_within g n w _ _ _) kS_X6_73 ⟨Nat.le_of_ble_eq_true rfl, Nat.le_of_ble_eq_true rfl⟩ ⟨rfl, rfl⟩ ⟨Nat.le_of_ble_eq_true rfl, Nat.le_of_ble_eq_true rfl⟩ (Nat.le_of_ble_eq_true rfl) dX6_hear_3 ?_
  refine ww_ifneB C (tgt := 17) dX6_hear_6 (by decide) (fun c6 => ?_) (fun c6 => ?_)
  · skip
    obtain ⟨q, hq0, hqm, rfl⟩ := wb_of (by decide) (by decide) c6
    have hcq : (nI q).toNatClampNeg = q := cl_nI (by omega)
    refine ww_aload0 C dX6_hear_17 ?_
    refine ww_getf C fl_X6_29 hC.2.1 rfl dX6_hear_18 ?_
    refine ww_getf C fl_X6_95 hC.2.2.2.2.2.1.1 rfl dX6_hear_21 ?_
    refine ww_iload1 C dX6_hear_24 ?_
    refine ww_cV1vq C hC.2.2.2.2.2.1.2.2.1 rfl (c_take g n w hC.2.2.2.2.2.1.2.2 (s := q) (by omega)) kV_X6_186 ⟨Nat.le_of_ble_eq_true rfl, Nat.le_of_ble_eq_true rfl⟩ ⟨rfl, rfl⟩ ⟨Nat.le_of_ble_eq_true rfl, Nat.le_of_ble_eq_true rfl⟩ (Nat.le_of_ble_eq_true rfl) dX6_hear_25 (fun w1 hw1 => ?_)
    obtain ⟨hE1, hf1⟩ := hw1
    by_cases hn12 : a.2.2.2.2 < 12
    · rw [if_pos hn12] at hE1
      have hC := hC.now (a2 := (a.1, a.2.1, a.2.2.1, va_up a.2.2.2.1 a.2.2.2.2 q, a.2.2.2.2 + 1)) (MY.setE hC.2.2.2.2.2.1 hE1 hf1) (hf1.wide (by omega) (by omega))
      rw [decide_eq_true hn12]
      refine ww_ifeqB C (tgt := 44) dX6_hear_28 (by decide) (fun c28 => ?_) (fun c28 => ?_)
      · skip
        cases c28
      · skip
        refine ww_aload0 C dX6_hear_31 ?_
        refine ww_getf C fl_X6_29 hC.2.1 rfl dX6_hear_32 ?_
        refine ww_getf C fl_X6_95 hC.2.2.2.2.2.1.1 rfl dX6_hear_35 ?_
        refine ww_getf C fl_X6_189 hC.2.2.2.2.2.1.2.2.1 rfl dX6_hear_38 ?_
        refine ww_goto C (tgt := 46) dX6_hear_41 (by decide) ?_
        exact ww_riq C dX6_hear_46 rfl ⟨Nat.le_of_ble_eq_true rfl, Nat.le_of_ble_eq_true rfl⟩ (by unfold V_hear; rw [if_pos (Or.inl c6), if_pos hn12]) ⟨by unfold A_hear; rw [if_pos ⟨Or.inl c6, hn12⟩, hcq]; exact ⟨_, _, _, _, _, _, _, hC, hq1, hq2⟩, hf1.wide (by omega) (by omega)⟩
    · rw [if_neg hn12] at hE1
      have hC := hC.now (a2 := a) (MY.setE hC.2.2.2.2.2.1 hE1 hf1) (hf1.wide (by omega) (by omega))
      rw [decide_eq_false hn12]
      refine ww_ifeqB C (tgt := 44) dX6_hear_28 (by decide) (fun c28 => ?_) (fun c28 => ?_)
      · skip
        refine ww_bipush C (v := -3) dX6_hear_44 (by decide) ?_
        exact ww_riq C dX6_hear_46 rfl ⟨Nat.le_of_ble_eq_true rfl, Nat.le_of_ble_eq_true rfl⟩ (by unfold V_hear; rw [if_pos (Or.inl c6), if_neg hn12]) ⟨by unfold A_hear; rw [if_neg (fun e => hn12 e.2)]; exact ⟨_, _, _, _, _, _, _, hC, hq1, hq2⟩, hf1.wide (by omega) (by omega)⟩
      · skip
        cases c28
  · skip
    refine ww_iload1 C dX6_hear_9 ?_
    refine ww_bipush C (v := nI 9) dX6_hear_10 (by decide) ?_
    refine ww_icmpeq C (tgt := 17) dX6_hear_12 (by decide) (fun c12 => ?_) (fun c12 => ?_)
    · skip
      obtain ⟨q, hqe⟩ : ∃ q, q = 9 := ⟨9, rfl⟩
      rw [show nI 9 = nI q by rw [hqe]] at c12
      subst c12
      have hcq : (nI q).toNatClampNeg = q := cl_nI (by omega)
      refine ww_aload0 C dX6_hear_17 ?_
      refine ww_getf C fl_X6_29 hC.2.1 rfl dX6_hear_18 ?_
      refine ww_getf C fl_X6_95 hC.2.2.2.2.2.1.1 rfl dX6_hear_21 ?_
      refine ww_iload1 C dX6_hear_24 ?_
      refine ww_cV1vq C hC.2.2.2.2.2.1.2.2.1 rfl (c_take g n w hC.2.2.2.2.2.1.2.2 (s := q) (by omega)) kV_X6_186 ⟨Nat.le_of_ble_eq_true rfl, Nat.le_of_ble_eq_true rfl⟩ ⟨rfl, rfl⟩ ⟨Nat.le_of_ble_eq_true rfl, Nat.le_of_ble_eq_true rfl⟩ (Nat.le_of_ble_eq_true rfl) dX6_hear_25 (fun w1 hw1 => ?_)
      obtain ⟨hE1, hf1⟩ := hw1
      by_cases hn12 : a.2.2.2.2 < 12
      · rw [if_pos hn12] at hE1
        have hC := hC.now (a2 := (a.1, a.2.1, a.2.2.1, va_up a.2.2.2.1 a.2.2.2.2 q, a.2.2.2.2 + 1)) (MY.setE hC.2.2.2.2.2.1 hE1 hf1) (hf1.wide (by omega) (by omega))
        rw [decide_eq_true hn12]
        refine ww_ifeqB C (tgt := 44) dX6_hear_28 (by decide) (fun c28 => ?_) (fun c28 => ?_)
        · skip
          cases c28
        · skip
          refine ww_aload0 C dX6_hear_31 ?_
          refine ww_getf C fl_X6_29 hC.2.1 rfl dX6_hear_32 ?_
          refine ww_getf C fl_X6_95 hC.2.2.2.2.2.1.1 rfl dX6_hear_35 ?_
          refine ww_getf C fl_X6_189 hC.2.2.2.2.2.1.2.2.1 rfl dX6_hear_38 ?_
          refine ww_goto C (tgt := 46) dX6_hear_41 (by decide) ?_
          exact ww_riq C dX6_hear_46 rfl ⟨Nat.le_of_ble_eq_true rfl, Nat.le_of_ble_eq_true rfl⟩ (by unfold V_hear; rw [if_pos (Or.inr (by rw [hqe])), if_pos hn12]) ⟨by unfold A_hear; rw [if_pos ⟨Or.inr (by rw [hqe]), hn12⟩, hcq]; exact ⟨_, _, _, _, _, _, _, hC, hq1, hq2⟩, hf1.wide (by omega) (by omega)⟩
      · rw [if_neg hn12] at hE1
        have hC := hC.now (a2 := a) (MY.setE hC.2.2.2.2.2.1 hE1 hf1) (hf1.wide (by omega) (by omega))
        rw [decide_eq_false hn12]
        refine ww_ifeqB C (tgt := 44) dX6_hear_28 (by decide) (fun c28 => ?_) (fun c28 => ?_)
        · skip
          refine ww_bipush C (v := -3) dX6_hear_44 (by decide) ?_
          exact ww_riq C dX6_hear_46 rfl ⟨Nat.le_of_ble_eq_true rfl, Nat.le_of_ble_eq_true rfl⟩ (by unfold V_hear; rw [if_pos (Or.inr (by rw [hqe])), if_neg hn12]) ⟨by unfold A_hear; rw [if_neg (fun e => hn12 e.2)]; exact ⟨_, _, _, _, _, _, _, hC, hq1, hq2⟩, hf1.wide (by omega) (by omega)⟩
        · skip
          cases c28
    · skip
      refine ww_iconst C (v := -1) dX6_hear_15 (by decide) ?_
      exact ww_riq C dX6_hear_16 rfl ⟨Nat.le_of_ble_eq_true rfl, Nat.le_of_ble_eq_true rfl⟩ (by unfold V_hear; rw [if_neg (fun e => e.elim (fun e => by rw [c6] at e; cases e) c12)]) ⟨by unfold A_hear; rw [if_neg (fun e => e.1.elim (fun e => by rw [c6] at e; cases e) c12)]; exact hR, fr.rf⟩
theorem d_forget (g : Gx) (n : Nat) (w : Wd) {t : Nat → Nat} {len : Nat} {h : Hs} {a : Ms} {kn : Nat} {k1 k2 : Ms} (hR : CR w t len h a kn k1 k2) : CT g yX6_forget cX6_forget 2 (some .int) rm_X6_forget n n w [.ref 0] (Rq (.int (nI a.2.2.2.2)) (fun w1 => CR w1 t len h (a.1, a.2.1, a.2.2.1, a.2.2.2.1, 0) kn k1 k2 ∧ fr w w1 0 59)) := by
  obtain ⟨hi, dr, pl, nm, h', p1, p2, hC, hq1, hq2⟩ := id hR
  have hp8 : h.2.2.2.1 ≤ 8 := hC.2.2.2.2.2.1.2.1.2.2.2.2.1
  have hhd := hC.1
  have hlen := hC.2.2.1.2.2.2.1
  refine CT.start [some (.ref 0), none] (by decide +kernel) rfl (Nat.le_of_ble_eq_true rfl) (fun x C hnm => ?_)
  refine ww_aload0 C dX6_forget_0 ?_
  refine ww_getf C fl_X6_29 hC.2.1 rfl dX6_forget_1 ?_
  refine ww_getf C fl_X6_95 hC.2.2.2.2.2.1.1 rfl dX6_forget_4 ?_
  refine ww_getf C fl_X6_189 hC.2.2.2.2.2.1.2.2.1 rfl dX6_forget_7 ?_
  refine ww_istore1 C dX6_forget_10 (by decide) rfl ?_
  refine ww_aload0 C dX6_forget_11 ?_
  refine ww_getf C fl_X6_29 hC.2.1 rfl dX6_forget_12 ?_
  refine ww_getf C fl_X6_95 hC.2.2.2.2.2.1.1 rfl dX6_forget_15 ?_
  refine ww_cV00q C hC.2.2.2.2.2.1.2.2.1 rfl (c_earEmpty g n w hC.2.2.2.2.2.1.2.2) kV_X6_99 ⟨Nat.le_of_ble_eq_true rfl, Nat.le_of_ble_eq_true rfl⟩ ⟨rfl, rfl⟩ ⟨Nat.le_of_ble_eq_true rfl, Nat.le_of_ble_eq_true rfl⟩ (Nat.le_of_ble_eq_true rfl) dX6_forget_18 (fun w1 hw1 => ?_)
  obtain ⟨hE1, hf1⟩ := hw1
  have hC := hC.now (a2 := (a.1, a.2.1, a.2.2.1, a.2.2.2.1, 0)) (MY.setE hC.2.2.2.2.2.1 hE1 hf1) (hf1.wide (by omega) (by omega))
  refine ww_iload1 C dX6_forget_21 ?_
  exact ww_riq C dX6_forget_22 rfl ⟨Nat.le_of_ble_eq_true rfl, Nat.le_of_ble_eq_true rfl⟩ rfl ⟨⟨_, _, _, _, _, _, _, hC, hq1, hq2⟩, hf1.wide (by omega) (by omega)⟩
def V_count (len : Nat) (h : Hs) (a : Ms) (kn : Nat) (what : Int32) : Int32 := if what = nI 0 then nI h.2.2.2.1 else if what = nI 1 then nI a.2.2.2.2 else if what = nI 2 then nI len else if what = nI 3 then nI kn else if what = nI 4 then nI h.2.2.2.2.2.2.2.2.2.1 else if what = nI 5 then nI h.2.2.2.2.2.2.2.2.2.2.1 else if what = nI 6 then nI h.2.2.2.2.2.2.2.2.2.2.2 else -1
theorem d_count (g : Gx) (n : Nat) (w : Wd) {t : Nat → Nat} {len : Nat} {h : Hs} {a : Ms} {kn : Nat} {k1 k2 : Ms} (hR : CR w t len h a kn k1 k2) (what : Int32) : CT g yX6_count cX6_count 2 (some .int) rm_X6_count n n w [.ref 0, .int what] (Rq (.int (V_count len h a kn what)) (fun w1 => CR w1 t len h a kn k1 k2 ∧ fr w w1 0 59)) := by
  obtain ⟨hi, dr, pl, nm, h', p1, p2, hC, hq1, hq2⟩ := id hR
  have hp8 : h.2.2.2.1 ≤ 8 := hC.2.2.2.2.2.1.2.1.2.2.2.2.1
  have hhd := hC.1
  have hlen := hC.2.2.1.2.2.2.1
  refine CT.start [some (.ref 0), some (.int what)] (by decide +kernel) rfl (Nat.le_of_ble_eq_true rfl) (fun x C hnm => ?_)
  refine ww_iload1 C dX6_count_0 ?_
  by_cases e0 : what = nI 0
  · subst e0
    refine ww_tabIn C (tgt := 44) dX6_count_1 (by decide) (by decide) rfl (by decide) ?_
    refine ww_aload0 C dX6_count_44 ?_
    refine ww_getf C fl_X6_29 hC.2.1 rfl dX6_count_45 ?_
    refine ww_getf C fl_X6_65 hC.2.2.2.2.2.1.1 rfl dX6_count_48 ?_
    refine ww_getf C fl_X6_92 hC.2.2.2.2.2.1.2.1.1 rfl dX6_count_51 ?_
    exact ww_riq C dX6_count_54 rfl ⟨Nat.le_of_ble_eq_true rfl, Nat.le_of_ble_eq_true rfl⟩ (by unfold V_count; rw [if_pos rfl]) ⟨hR, fr.rf⟩
  · skip
    by_cases e1 : what = nI 1
    · subst e1
      refine ww_tabIn C (tgt := 55) dX6_count_1 (by decide) (by decide) rfl (by decide) ?_
      refine ww_aload0 C dX6_count_55 ?_
      refine ww_getf C fl_X6_29 hC.2.1 rfl dX6_count_56 ?_
      refine ww_getf C fl_X6_95 hC.2.2.2.2.2.1.1 rfl dX6_count_59 ?_
      refine ww_getf C fl_X6_189 hC.2.2.2.2.2.1.2.2.1 rfl dX6_count_62 ?_
      exact ww_riq C dX6_count_65 rfl ⟨Nat.le_of_ble_eq_true rfl, Nat.le_of_ble_eq_true rfl⟩ (by unfold V_count; rw [if_neg (by decide), if_pos rfl]) ⟨hR, fr.rf⟩
    · skip
      by_cases e2 : what = nI 2
      · subst e2
        refine ww_tabIn C (tgt := 66) dX6_count_1 (by decide) (by decide) rfl (by decide) ?_
        refine ww_aload0 C dX6_count_66 ?_
        refine ww_getf C fl_X6_10 hC.2.1 rfl dX6_count_67 ?_
        refine ww_getf C fl_X6_85 hC.2.2.1.1 rfl dX6_count_70 ?_
        exact ww_riq C dX6_count_73 rfl ⟨Nat.le_of_ble_eq_true rfl, Nat.le_of_ble_eq_true rfl⟩ (by unfold V_count; rw [if_neg (by decide), if_neg (by decide), if_pos rfl]) ⟨hR, fr.rf⟩
      · skip
        by_cases e3 : what = nI 3
        · subst e3
          refine ww_tabIn C (tgt := 74) dX6_count_1 (by decide) (by decide) rfl (by decide) ?_
          refine ww_aload0 C dX6_count_74 ?_
          refine ww_getf C fl_X6_39 hC.2.1 rfl dX6_count_75 ?_
          exact ww_riq C dX6_count_78 rfl ⟨Nat.le_of_ble_eq_true rfl, Nat.le_of_ble_eq_true rfl⟩ (by unfold V_count; rw [if_neg (by decide), if_neg (by decide), if_neg (by decide), if_pos rfl]) ⟨hR, fr.rf⟩
        · skip
          by_cases e4 : what = nI 4
          · subst e4
            refine ww_tabIn C (tgt := 79) dX6_count_1 (by decide) (by decide) rfl (by decide) ?_
            refine ww_aload0 C dX6_count_79 ?_
            refine ww_getf C fl_X6_19 hC.2.1 rfl dX6_count_80 ?_
            refine ww_getf C fl_X6_231 hC.2.2.2.1.1 rfl dX6_count_83 ?_
            exact ww_riq C dX6_count_86 rfl ⟨Nat.le_of_ble_eq_true rfl, Nat.le_of_ble_eq_true rfl⟩ (by unfold V_count; rw [if_neg (by decide), if_neg (by decide), if_neg (by decide), if_neg (by decide), if_pos rfl]) ⟨hR, fr.rf⟩
          · skip
            by_cases e5 : what = nI 5
            · subst e5
              refine ww_tabIn C (tgt := 87) dX6_count_1 (by decide) (by decide) rfl (by decide) ?_
              refine ww_aload0 C dX6_count_87 ?_
              refine ww_getf C fl_X6_19 hC.2.1 rfl dX6_count_88 ?_
              refine ww_getf C fl_X6_234 hC.2.2.2.1.1 rfl dX6_count_91 ?_
              exact ww_riq C dX6_count_94 rfl ⟨Nat.le_of_ble_eq_true rfl, Nat.le_of_ble_eq_true rfl⟩ (by unfold V_count; rw [if_neg (by decide), if_neg (by decide), if_neg (by decide), if_neg (by decide), if_neg (by decide), if_pos rfl]) ⟨hR, fr.rf⟩
            · skip
              by_cases e6 : what = nI 6
              · subst e6
                refine ww_tabIn C (tgt := 95) dX6_count_1 (by decide) (by decide) rfl (by decide) ?_
                refine ww_aload0 C dX6_count_95 ?_
                refine ww_getf C fl_X6_19 hC.2.1 rfl dX6_count_96 ?_
                refine ww_getf C fl_X6_237 hC.2.2.2.1.1 rfl dX6_count_99 ?_
                exact ww_riq C dX6_count_102 rfl ⟨Nat.le_of_ble_eq_true rfl, Nat.le_of_ble_eq_true rfl⟩ (by unfold V_count; rw [if_neg (by decide), if_neg (by decide), if_neg (by decide), if_neg (by decide), if_neg (by decide), if_neg (by decide), if_pos rfl]) ⟨hR, fr.rf⟩
              · skip
                refine ww_tabOut C (tgt := 103) dX6_count_1 (sw_out (m := 6) (by decide) (fun k hk => by rcases (show k = 0 ∨ k = 1 ∨ k = 2 ∨ k = 3 ∨ k = 4 ∨ k = 5 ∨ k = 6 by omega) with rfl | rfl | rfl | rfl | rfl | rfl | rfl <;> assumption)) (by decide) ?_
                refine ww_iconst C (v := -1) dX6_count_103 (by decide) ?_
                exact ww_riq C dX6_count_104 rfl ⟨Nat.le_of_ble_eq_true rfl, Nat.le_of_ble_eq_true rfl⟩ (by unfold V_count; rw [if_neg e0, if_neg e1, if_neg e2, if_neg e3, if_neg e4, if_neg e5, if_neg e6]) ⟨hR, fr.rf⟩
theorem c_keptPlace (g : Gx) (n : Nat) (w : Wd) {hi dr len pl kn p1 p2 : Nat} {t nm : Nat → Nat} {h h' : Hs} {a k1 k2 : Ms} (hC : CX w hi dr t len pl nm h h' a kn k1 k2 p1 p2) {i : Nat} (hi : i ≤ 2) : CT g yX6_keptPlace cX6_keptPlace 2 (some (.object "DeedNames$Memory")) rm_X6_keptPlace n n w [.ref 0, .int (nI i)] (Rv (.ref (if i = 0 then 31 else 38)) w) := by
  refine CT.start [some (.ref 0), some (.int (nI i))] (by decide +kernel) rfl (Nat.le_of_ble_eq_true rfl) (fun x C hnm => ?_)
  refine ww_iload1 C dX6_keptPlace_0 ?_
  refine ww_ifneN C (by omega) (tgt := 11) dX6_keptPlace_1 (by decide) (fun c1 => ?_) (fun c1 => ?_)
  · skip
    refine ww_aload0 C dX6_keptPlace_11 ?_
    refine ww_getf C fl_X6_36 hC.2.1 rfl dX6_keptPlace_12 ?_
    exact ww_ra C dX6_keptPlace_15 rfl ⟨Nat.le_of_ble_eq_true rfl, Nat.le_of_ble_eq_true rfl⟩ (by rw [if_neg c1]) rfl
  · skip
    refine ww_aload0 C dX6_keptPlace_4 ?_
    refine ww_getf C fl_X6_33 hC.2.1 rfl dX6_keptPlace_5 ?_
    refine ww_goto C (tgt := 15) dX6_keptPlace_8 (by decide) ?_
    exact ww_ra C dX6_keptPlace_15 rfl ⟨Nat.le_of_ble_eq_true rfl, Nat.le_of_ble_eq_true rfl⟩ (by rw [if_pos c1]) rfl
def V_keep (kn : Nat) : Int32 := if kn < 2 then nI (kn + 1) else -3
def N_keep (kn : Nat) : Nat := if kn < 2 then kn + 1 else kn
def K1_keep (a : Ms) (kn : Nat) (k1 : Ms) : Ms := if kn < 2 ∧ kn = 0 then a else k1
def K2_keep (a : Ms) (kn : Nat) (k2 : Ms) : Ms := if kn < 2 ∧ ¬ kn = 0 then a else k2
theorem d_keep (g : Gx) (n : Nat) (w : Wd) {t : Nat → Nat} {len : Nat} {h : Hs} {a : Ms} {kn : Nat} {k1 k2 : Ms} (hR : CR w t len h a kn k1 k2) : CT g yX6_keep cX6_keep 1 (some .int) rm_X6_keep n n w [.ref 0] (Rq (.int (V_keep kn)) (fun w1 => CR w1 t len h a (N_keep kn) (K1_keep a kn k1) (K2_keep a kn k2) ∧ fr w w1 0 59)) := by
  obtain ⟨hi, dr, pl, nm, h', p1, p2, hC, hq1, hq2⟩ := id hR
  have hp8 : h.2.2.2.1 ≤ 8 := hC.2.2.2.2.2.1.2.1.2.2.2.2.1
  have hhd := hC.1
  have hlen := hC.2.2.1.2.2.2.1
  have hkn := hC.2.2.2.2.2.2.2.2.2.2
  refine CT.start [some (.ref 0)] (by decide +kernel) rfl (Nat.le_of_ble_eq_true rfl) (fun x C hnm => ?_)
  refine ww_aload0 C dX6_keep_0 ?_
  refine ww_getf C fl_X6_39 hC.2.1 rfl dX6_keep_1 ?_
  refine ww_iconst C (v := nI 2) dX6_keep_4 (by decide) ?_
  refine ww_icmpltN C (by omega) (tgt := 11) dX6_keep_5 (by decide) (fun c5 => ?_) (fun c5 => ?_)
  · skip
    refine ww_aload0 C dX6_keep_11 ?_
    refine ww_aload0 C dX6_keep_12 ?_
    refine ww_getf C fl_X6_39 hC.2.1 rfl dX6_keep_13 ?_
    refine ww_cV1v C hC.2.1 rfl (c_keptPlace g n w hC (i := kn) (by omega)) kV_X6_224 ⟨Nat.le_of_ble_eq_true rfl, Nat.le_of_ble_eq_true rfl⟩ ⟨rfl, rfl⟩ ⟨Nat.le_of_ble_eq_true rfl, Nat.le_of_ble_eq_true rfl⟩ (Nat.le_of_ble_eq_true rfl) dX6_keep_16 ?_
    refine ww_aload0 C dX6_keep_19 ?_
    refine ww_getf C fl_X6_29 hC.2.1 rfl dX6_keep_20 ?_
    by_cases ck : kn = 0
    · rw [if_pos ck]
      refine ww_cV10q C (hC.2.2.2.2.2.2.1).1 rfl (c_memCopy g n w hC.2.2.2.2.2.2.1 hC.2.2.2.2.2.1 (by omega)) kV_X6_228 ⟨Nat.le_of_ble_eq_true rfl, Nat.le_of_ble_eq_true rfl⟩ ⟨rfl, rfl⟩ ⟨Nat.le_of_ble_eq_true rfl, Nat.le_of_ble_eq_true rfl⟩ (Nat.le_of_ble_eq_true rfl) dX6_keep_23 (fun w1 hw1 => ?_)
      obtain ⟨hY1, hf1⟩ := hw1
      have hC := hC.sk1 (b := a) hY1 hf1
      refine ww_aload0 C dX6_keep_26 ?_
      refine ww_dup C dX6_keep_27 rfl ?_
      refine ww_getf C fl_X6_39 hC.2.1 rfl dX6_keep_28 ?_
      refine ww_iconst C (v := nI 1) dX6_keep_31 (by decide) ?_
      refine ww_iaddN C dX6_keep_32 ?_
      refine ww_putI C fl_X6_39 hC.2.1 (Nat.le_of_ble_eq_true rfl) rfl dX6_keep_33 (fun w2 hw2 => ?_)
      have hC := hC.skn (kn2 := kn + 1) hw2 (by omega)
      have hf0 : fr w1 w2 0 59 := fr.up hw2 (by omega) (by omega)
      refine ww_aload0 C dX6_keep_36 ?_
      refine ww_getf C fl_X6_39 hC.2.1 rfl dX6_keep_37 ?_
      exact ww_riq C dX6_keep_40 rfl ⟨Nat.le_of_ble_eq_true rfl, Nat.le_of_ble_eq_true rfl⟩ (by unfold V_keep; rw [if_pos c5]) ⟨by unfold N_keep K1_keep K2_keep; rw [if_pos c5, if_pos (And.intro c5 ck), if_neg (fun e => e.2 ck)]; exact ⟨_, _, _, _, _, _, _, hC, fun _ => rfl, fun e => absurd e (by omega)⟩, (hf1.wide (by omega) (by omega)).tr hf0⟩
    · rw [if_neg ck]
      refine ww_cV10q C (hC.2.2.2.2.2.2.2.1).1 rfl (c_memCopy g n w hC.2.2.2.2.2.2.2.1 hC.2.2.2.2.2.1 (by omega)) kV_X6_228 ⟨Nat.le_of_ble_eq_true rfl, Nat.le_of_ble_eq_true rfl⟩ ⟨rfl, rfl⟩ ⟨Nat.le_of_ble_eq_true rfl, Nat.le_of_ble_eq_true rfl⟩ (Nat.le_of_ble_eq_true rfl) dX6_keep_23 (fun w1 hw1 => ?_)
      obtain ⟨hY1, hf1⟩ := hw1
      have hC := hC.sk2 (b := a) hY1 hf1
      refine ww_aload0 C dX6_keep_26 ?_
      refine ww_dup C dX6_keep_27 rfl ?_
      refine ww_getf C fl_X6_39 hC.2.1 rfl dX6_keep_28 ?_
      refine ww_iconst C (v := nI 1) dX6_keep_31 (by decide) ?_
      refine ww_iaddN C dX6_keep_32 ?_
      refine ww_putI C fl_X6_39 hC.2.1 (Nat.le_of_ble_eq_true rfl) rfl dX6_keep_33 (fun w2 hw2 => ?_)
      have hC := hC.skn (kn2 := kn + 1) hw2 (by omega)
      have hf0 : fr w1 w2 0 59 := fr.up hw2 (by omega) (by omega)
      refine ww_aload0 C dX6_keep_36 ?_
      refine ww_getf C fl_X6_39 hC.2.1 rfl dX6_keep_37 ?_
      exact ww_riq C dX6_keep_40 rfl ⟨Nat.le_of_ble_eq_true rfl, Nat.le_of_ble_eq_true rfl⟩ (by unfold V_keep; rw [if_pos c5]) ⟨by unfold N_keep K1_keep K2_keep; rw [if_pos c5, if_neg (fun e => ck e.2), if_pos (And.intro c5 ck)]; exact ⟨_, _, _, _, _, _, _, hC, fun _ => hq1 (by omega), fun _ => rfl⟩, (hf1.wide (by omega) (by omega)).tr hf0⟩
  · skip
    refine ww_bipush C (v := -3) dX6_keep_8 (by decide) ?_
    exact ww_riq C dX6_keep_10 rfl ⟨Nat.le_of_ble_eq_true rfl, Nat.le_of_ble_eq_true rfl⟩ (by unfold V_keep; rw [if_neg (by omega)]) ⟨by unfold N_keep K1_keep K2_keep; rw [if_neg (by omega), if_neg (by omega), if_neg (by omega)]; exact hR, fr.rf⟩
def V_back (kn : Nat) : Int32 := if 1 ≤ kn then nI (kn - 1) else -2
def N_back (kn : Nat) : Nat := if 1 ≤ kn then kn - 1 else kn
def A_back (a : Ms) (kn : Nat) (k1 k2 : Ms) : Ms := if 1 ≤ kn then (if kn - 1 = 0 then k1 else k2) else a
theorem d_back (g : Gx) (n : Nat) (w : Wd) {t : Nat → Nat} {len : Nat} {h : Hs} {a : Ms} {kn : Nat} {k1 k2 : Ms} (hR : CR w t len h a kn k1 k2) : CT g yX6_back cX6_back 1 (some .int) rm_X6_back n n w [.ref 0] (Rq (.int (V_back kn)) (fun w1 => CR w1 t len h (A_back a kn k1 k2) (N_back kn) k1 k2 ∧ fr w w1 0 59)) := by
  obtain ⟨hi, dr, pl, nm, h', p1, p2, hC, hq1, hq2⟩ := id hR
  have hp8 : h.2.2.2.1 ≤ 8 := hC.2.2.2.2.2.1.2.1.2.2.2.2.1
  have hhd := hC.1
  have hlen := hC.2.2.1.2.2.2.1
  have hkn := hC.2.2.2.2.2.2.2.2.2.2
  refine CT.start [some (.ref 0)] (by decide +kernel) rfl (Nat.le_of_ble_eq_true rfl) (fun x C hnm => ?_)
  refine ww_aload0 C dX6_back_0 ?_
  refine ww_getf C fl_X6_39 hC.2.1 rfl dX6_back_1 ?_
  refine ww_iconst C (v := nI 1) dX6_back_4 (by decide) ?_
  refine ww_icmpgeN C (by omega) (tgt := 11) dX6_back_5 (by decide) (fun c5 => ?_) (fun c5 => ?_)
  · skip
    refine ww_aload0 C dX6_back_11 ?_
    refine ww_dup C dX6_back_12 rfl ?_
    refine ww_getf C fl_X6_39 hC.2.1 rfl dX6_back_13 ?_
    refine ww_iconst C (v := nI 1) dX6_back_16 (by decide) ?_
    refine ww_isubN C (by omega) dX6_back_17 ?_
    refine ww_putI C fl_X6_39 hC.2.1 (Nat.le_of_ble_eq_true rfl) rfl dX6_back_18 (fun w1 hw1 => ?_)
    have hC := hC.skn (kn2 := kn - 1) hw1 (by omega)
    have hf0 : fr w w1 0 59 := fr.up hw1 (by omega) (by omega)
    refine ww_aload0 C dX6_back_21 ?_
    refine ww_getf C fl_X6_29 hC.2.1 rfl dX6_back_22 ?_
    refine ww_aload0 C dX6_back_25 ?_
    refine ww_aload0 C dX6_back_26 ?_
    refine ww_getf C fl_X6_39 hC.2.1 rfl dX6_back_27 ?_
    refine ww_cV1v C hC.2.1 rfl (c_keptPlace g n w1 hC (i := kn - 1) (by omega)) kV_X6_224 ⟨Nat.le_of_ble_eq_true rfl, Nat.le_of_ble_eq_true rfl⟩ ⟨rfl, rfl⟩ ⟨Nat.le_of_ble_eq_true rfl, Nat.le_of_ble_eq_true rfl⟩ (Nat.le_of_ble_eq_true rfl) dX6_back_30 ?_
    by_cases ck : kn - 1 = 0
    · rw [if_pos ck]
      refine ww_cV10q C (hC.2.2.2.2.2.1).1 rfl (c_memCopy g n w1 hC.2.2.2.2.2.1 hC.2.2.2.2.2.2.1 (by omega)) kV_X6_228 ⟨Nat.le_of_ble_eq_true rfl, Nat.le_of_ble_eq_true rfl⟩ ⟨rfl, rfl⟩ ⟨Nat.le_of_ble_eq_true rfl, Nat.le_of_ble_eq_true rfl⟩ (Nat.le_of_ble_eq_true rfl) dX6_back_33 (fun w9 hw9 => ?_)
      obtain ⟨hY1, hf1⟩ := hw9
      rw [hq1 (by omega)] at hY1
      have hC := hC.now (a2 := k1) hY1 hf1
      refine ww_aload0 C dX6_back_36 ?_
      refine ww_getf C fl_X6_39 hC.2.1 rfl dX6_back_37 ?_
      exact ww_riq C dX6_back_40 rfl ⟨Nat.le_of_ble_eq_true rfl, Nat.le_of_ble_eq_true rfl⟩ (by unfold V_back; rw [if_pos c5]) ⟨by unfold N_back A_back; rw [if_pos c5, if_pos c5, if_pos ck]; exact ⟨_, _, _, _, _, _, _, hC, fun _ => hq1 (by omega), fun _ => hq2 (by omega)⟩, hf0.tr (hf1.wide (by omega) (by omega))⟩
    · rw [if_neg ck]
      refine ww_cV10q C (hC.2.2.2.2.2.1).1 rfl (c_memCopy g n w1 hC.2.2.2.2.2.1 hC.2.2.2.2.2.2.2.1 (by omega)) kV_X6_228 ⟨Nat.le_of_ble_eq_true rfl, Nat.le_of_ble_eq_true rfl⟩ ⟨rfl, rfl⟩ ⟨Nat.le_of_ble_eq_true rfl, Nat.le_of_ble_eq_true rfl⟩ (Nat.le_of_ble_eq_true rfl) dX6_back_33 (fun w9 hw9 => ?_)
      obtain ⟨hY1, hf1⟩ := hw9
      rw [hq2 (by omega)] at hY1
      have hC := hC.now (a2 := k2) hY1 hf1
      refine ww_aload0 C dX6_back_36 ?_
      refine ww_getf C fl_X6_39 hC.2.1 rfl dX6_back_37 ?_
      exact ww_riq C dX6_back_40 rfl ⟨Nat.le_of_ble_eq_true rfl, Nat.le_of_ble_eq_true rfl⟩ (by unfold V_back; rw [if_pos c5]) ⟨by unfold N_back A_back; rw [if_pos c5, if_pos c5, if_neg ck]; exact ⟨_, _, _, _, _, _, _, hC, fun _ => hq1 (by omega), fun _ => hq2 (by omega)⟩, hf0.tr (hf1.wide (by omega) (by omega))⟩
  · skip
    refine ww_bipush C (v := -2) dX6_back_8 (by decide) ?_
    exact ww_riq C dX6_back_10 rfl ⟨Nat.le_of_ble_eq_true rfl, Nat.le_of_ble_eq_true rfl⟩ (by unfold V_back; rw [if_neg (by omega)]) ⟨by unfold N_back A_back; rw [if_neg (by omega), if_neg (by omega)]; exact hR, fr.rf⟩
