def V_fault (t : Nat → Nat) (len : Nat) : Int32 := oI (RD t len).1
/-- a text that can be laid -/
def okL (t : Nat → Nat) (len : Nat) : Prop := (RD t len).1 = none ∧ ¬ (RD t len).2.2.2.2.1 = 0
def V_lay (t : Nat → Nat) (len : Nat) : Int32 := if (RD t len).1 = none ∧ ¬ (RD t len).2.2.2.2.1 = 0 then nI (RD t len).2.2.2.2.1 else -2
theorem oI_none {r : Option Nat} : (∀ q, r = some q → q < 2147483648) → (oI r = -4 ↔ r = none) := by
  intro h
  rcases r with _ | q
  · exact ⟨fun _ => rfl, fun _ => rfl⟩
  · refine ⟨fun e => absurd e (oI_ne (h q rfl)), fun e => by cases e⟩
theorem rdN_lt {t : Nat → Nat} {len : Nat} : ∀ (f pl : Nat) (h : Hs) (q : Nat), (rdN t len f pl h).1 = some q → q < len
  | 0, pl, h, q, e => by cases e
  | f + 1, pl, h, q, e => by
    by_cases c : pl < len
    · rcases q1 : itemR t len pl h with _ | r
      · rw [rdN_n c q1] at e
        cases e; exact c
      · rw [rdN_s c q1] at e
        exact rdN_lt f r.1 r.2 q e
    · rw [rdN_x c] at e; cases e
theorem d_fault (g : Gx) (n : Nat) (w : Wd) {t : Nat → Nat} {len : Nat} {h : Hs} {a : Ms} {kn : Nat} {k1 k2 : Ms} (hR : CR w t len h a kn k1 k2) : CT g yX6_fault cX6_fault 1 (some .int) rm_X6_fault n n w [.ref 0] (Rq (.int (V_fault t len)) (fun w1 => CR w1 t len h a kn k1 k2 ∧ fr w w1 0 59)) := by
  obtain ⟨hi, dr, pl, nm, h', p1, p2, hC, hq1, hq2⟩ := id hR
  have hp8 : h.2.2.2.1 ≤ 8 := hC.2.2.2.2.2.1.2.1.2.2.2.2.1
  have hhd := hC.1
  have hlen := hC.2.2.1.2.2.2.1
  refine CT.start [some (.ref 0)] (by decide +kernel) rfl (Nat.le_of_ble_eq_true rfl) (fun x C hnm => ?_)
  refine ww_aload0 C dX6_fault_0 ?_
  refine ww_getf C fl_X6_10 hC.2.1 rfl dX6_fault_1 ?_
  refine ww_aload0 C dX6_fault_4 ?_
  refine ww_getf C fl_X6_23 hC.2.1 rfl dX6_fault_5 ?_
  refine ww_cV1vq C hC.2.2.1.1 rfl (c_readInto g n w hC.2.2.1 hC.2.2.2.2.1 (by omega)) kV_X6_88 ⟨Nat.le_of_ble_eq_true rfl, Nat.le_of_ble_eq_true rfl⟩ ⟨rfl, rfl⟩ ⟨Nat.le_of_ble_eq_true rfl, Nat.le_of_ble_eq_true rfl⟩ (Nat.le_of_ble_eq_true rfl) dX6_fault_8 (fun w1 hw1 => ?_)
  obtain ⟨pr, nr, hr, hS1, hH1, hE1, hF1⟩ := hw1
  have hC := hC.rd hS1 hH1 hF1
  have hf1 := hF1.one (by omega)
  exact ww_riq C dX6_fault_11 rfl ⟨Nat.le_of_ble_eq_true rfl, Nat.le_of_ble_eq_true rfl⟩ (by unfold V_fault RD; rw [(rdN_ag 400 0 (Ag_emp _ _)).1]; rfl) ⟨⟨_, _, _, _, _, _, _, hC, hq1, hq2⟩, hf1⟩
theorem d_lay (g : Gx) (n : Nat) (w : Wd) {t : Nat → Nat} {len : Nat} {h : Hs} {a : Ms} {kn : Nat} {k1 k2 : Ms} (hR : CR w t len h a kn k1 k2) : CT g yX6_lay cX6_lay 2 (some .int) rm_X6_lay n n w [.ref 0] (Rq (.int (V_lay t len)) (fun w1 => ∃ h2 a2 kn2, CR w1 t len h2 a2 kn2 k1 k2 ∧ fr w w1 0 59 ∧ (okL t len → Ag h2 (RD t len).2 ∧ a2 = (h2.1, h2.2.1, h2.2.2.1, a.2.2.2.1, 0) ∧ kn2 = 0) ∧ (¬ okL t len → h2 = h ∧ a2 = a ∧ kn2 = kn))) := by
  obtain ⟨hi, dr, pl, nm, h', p1, p2, hC, hq1, hq2⟩ := id hR
  have hp8 : h.2.2.2.1 ≤ 8 := hC.2.2.2.2.2.1.2.1.2.2.2.2.1
  have hhd := hC.1
  have hlen := hC.2.2.1.2.2.2.1
  obtain ⟨c0, c1, c2, c3, c4, c5, c6, c7, c8, c9, c10⟩ := id hC
  refine CT.start [some (.ref 0), none] (by decide +kernel) rfl (Nat.le_of_ble_eq_true rfl) (fun x C hnm => ?_)
  refine ww_aload0 C dX6_lay_0 ?_
  refine ww_getf C fl_X6_10 c1 rfl dX6_lay_1 ?_
  refine ww_aload0 C dX6_lay_4 ?_
  refine ww_getf C fl_X6_23 c1 rfl dX6_lay_5 ?_
  refine ww_cV1vq C c2.1 rfl (c_readInto g n w c2 c4 (by omega)) kV_X6_88 ⟨Nat.le_of_ble_eq_true rfl, Nat.le_of_ble_eq_true rfl⟩ ⟨rfl, rfl⟩ ⟨Nat.le_of_ble_eq_true rfl, Nat.le_of_ble_eq_true rfl⟩ (Nat.le_of_ble_eq_true rfl) dX6_lay_8 (fun w1 hw1 => ?_)
  obtain ⟨pr, nr, h2, hS1, hH1, hE1, hF1⟩ := hw1
  have hC := hC.rd hS1 hH1 hF1
  have hf1 := hF1.one (by omega)
  obtain ⟨c0, c1, c2, c3, c4, c5, c6, c7, c8, c9, c10⟩ := id hC
  have hag := rdN_ag (t := t) (len := len) 400 0 (Ag_emp h' (fun _ => 0, fun _ => 0, fun _ => 0, 0, fun _ => 0, fun _ => 0, fun _ => 0, fun _ => 0, fun _ => 0, 0, 0, 0))
  have hRD : (rdN t len 400 0 (emp h')).1 = (RD t len).1 := hag.1
  have hAg : Ag (rdN t len 400 0 (emp h')).2 (RD t len).2 := hag.2
  rw [hRD] at hE1 ⊢
  have hlt : ∀ q, (RD t len).1 = some q → q < 2147483648 := fun q e => by have := rdN_lt _ _ _ q e; omega
  refine ww_bipush C (v := -4) dX6_lay_11 (by decide) ?_
  refine ww_icmpne C (tgt := 29) dX6_lay_13 (by decide) (fun c13 => ?_) (fun c13 => ?_)
  · skip
    refine ww_bipush C (v := -2) dX6_lay_29 (by decide) ?_
    exact ww_riq C dX6_lay_31 rfl ⟨Nat.le_of_ble_eq_true rfl, Nat.le_of_ble_eq_true rfl⟩ (by unfold V_lay; rw [if_neg (fun e => c13 (by rw [e.1]; rfl))]) ⟨h, a, kn, ⟨_, _, _, _, _, _, _, hC, hq1, hq2⟩, hf1, fun e => absurd e (fun e => c13 (by rw [e.1]; rfl)), fun _ => ⟨rfl, rfl, rfl⟩⟩
  · skip
    have c13 := (oI_none hlt).mp c13
    have hh2 := hE1 c13
    rw [← hh2] at hAg
    refine ww_aload0 C dX6_lay_16 ?_
    refine ww_getf C fl_X6_23 c1 rfl dX6_lay_17 ?_
    refine ww_getf C fl_X6_68 c4.1 rfl dX6_lay_20 ?_
    refine ww_getf C fl_X6_92 c4.2.1.1 rfl dX6_lay_23 ?_
    refine ww_ifneN C (by have := c4.2.1.2.2.2.2.1; omega) (tgt := 32) dX6_lay_26 (by decide) (fun c26 => ?_) (fun c26 => ?_)
    · skip
      refine ww_aload0 C dX6_lay_32 ?_
      refine ww_getf C fl_X6_19 c1 rfl dX6_lay_33 ?_
      refine ww_astore1 C dX6_lay_36 (by decide) rfl ?_
      refine ww_aload0 C dX6_lay_37 ?_
      refine ww_aload0 C dX6_lay_38 ?_
      refine ww_getf C fl_X6_23 c1 rfl dX6_lay_39 ?_
      refine ww_putR C fl_X6_19 c1 (Nat.le_of_ble_eq_true rfl) rfl dX6_lay_42 (fun w2 hw2 => ?_)
      have c1 : w2 0 = ob 6 [.ref 1, .ref dr, .ref dr, .ref 24, .ref 31, .ref 38, .int (nI kn), .ref 45, .ref 55] := by rw [hw2]; exact va_upd_self _ _ _
      have fw2 : fr w1 w2 0 1 := fr.up hw2 (by omega) (by omega)
      have c2 := c2.frm fw2 (by omega)
      have c3 := c3.frm2 fw2 (by omega)
      have c4 := c4.frm2 fw2 (by omega)
      have c5 := c5.frm fw2 (by omega)
      have c6 := c6.frm fw2 (by omega)
      have c7 := c7.frm fw2 (by omega)
      have c8 := c8.frm fw2 (by omega)
      have c9 := c9.frm fw2 (by omega)
      refine ww_aload0 C dX6_lay_45 ?_
      refine ww_aload1 C dX6_lay_46 ?_
      refine ww_putR C fl_X6_23 c1 (Nat.le_of_ble_eq_true rfl) rfl dX6_lay_47 (fun w3 hw3 => ?_)
      have c1 : w3 0 = ob 6 [.ref 1, .ref dr, .ref hi, .ref 24, .ref 31, .ref 38, .int (nI kn), .ref 45, .ref 55] := by rw [hw3]; exact va_upd_self _ _ _
      have fw3 : fr w2 w3 0 1 := fr.up hw3 (by omega) (by omega)
      have c2 := c2.frm fw3 (by omega)
      have c3 := c3.frm2 fw3 (by omega)
      have c4 := c4.frm2 fw3 (by omega)
      have c5 := c5.frm fw3 (by omega)
      have c6 := c6.frm fw3 (by omega)
      have c7 := c7.frm fw3 (by omega)
      have c8 := c8.frm fw3 (by omega)
      have c9 := c9.frm fw3 (by omega)
      refine ww_aload0 C dX6_lay_50 ?_
      refine ww_getf C fl_X6_29 c1 rfl dX6_lay_51 ?_
      refine ww_getf C fl_X6_65 c5.1 rfl dX6_lay_54 ?_
      refine ww_aload0 C dX6_lay_57 ?_
      refine ww_getf C fl_X6_19 c1 rfl dX6_lay_58 ?_
      refine ww_getf C fl_X6_68 c4.1 rfl dX6_lay_61 ?_
      obtain ⟨u1, hN1, hfu, hc1⟩ := c_copyFrom g n w3 c5.2.1 c4.2.1 (by omega)
      refine ww_cV10 C c5.2.1.1 rfl (hc1) kV_X6_69 ⟨Nat.le_of_ble_eq_true rfl, Nat.le_of_ble_eq_true rfl⟩ ⟨rfl, rfl⟩ ⟨Nat.le_of_ble_eq_true rfl, Nat.le_of_ble_eq_true rfl⟩ (Nat.le_of_ble_eq_true rfl) dX6_lay_64 ?_
      have c1 := (hfu 0 (by omega)).trans c1
      have c2 := c2.frm hfu (by omega)
      have c3 := c3.frm2 hfu (by omega)
      have c4 := c4.frm2 hfu (by omega)
      have c5 := (MY.setN c5 hN1 hfu : MYs u1 24 (h2.1, h2.2.1, h2.2.2.1, a.2.2.2.1, a.2.2.2.2) h2.2.2.2.1)
      have c6 := c6.frm hfu (by omega)
      have c7 := c7.frm hfu (by omega)
      have c8 := c8.frm hfu (by omega)
      have c9 := c9.frm hfu (by omega)
      refine ww_aload0 C dX6_lay_67 ?_
      refine ww_getf C fl_X6_29 c1 rfl dX6_lay_68 ?_
      refine ww_getf C fl_X6_95 c5.1 rfl dX6_lay_71 ?_
      refine ww_cV00q C c5.2.2.1 rfl (c_earEmpty g n u1 c5.2.2) kV_X6_99 ⟨Nat.le_of_ble_eq_true rfl, Nat.le_of_ble_eq_true rfl⟩ ⟨rfl, rfl⟩ ⟨Nat.le_of_ble_eq_true rfl, Nat.le_of_ble_eq_true rfl⟩ (Nat.le_of_ble_eq_true rfl) dX6_lay_74 (fun w4 hw4 => ?_)
      obtain ⟨hE4, hf4⟩ := hw4
      have c1 := (hf4 0 (by omega)).trans c1
      have c2 := c2.frm hf4 (by omega)
      have c3 := c3.frm2 hf4 (by omega)
      have c4 := c4.frm2 hf4 (by omega)
      have c5 := (MY.setE c5 hE4 hf4 : MYs w4 24 (h2.1, h2.2.1, h2.2.2.1, a.2.2.2.1, 0) h2.2.2.2.1)
      have c6 := c6.frm hf4 (by omega)
      have c7 := c7.frm hf4 (by omega)
      have c8 := c8.frm hf4 (by omega)
      have c9 := c9.frm hf4 (by omega)
      refine ww_aload0 C dX6_lay_77 ?_
      refine ww_iconst C (v := nI 0) dX6_lay_78 (by decide) ?_
      refine ww_putI C fl_X6_39 c1 (Nat.le_of_ble_eq_true rfl) rfl dX6_lay_79 (fun w5 hw5 => ?_)
      have c1 : w5 0 = ob 6 [.ref 1, .ref dr, .ref hi, .ref 24, .ref 31, .ref 38, .int (nI 0), .ref 45, .ref 55] := by rw [hw5]; exact va_upd_self _ _ _
      have fw5 : fr w4 w5 0 1 := fr.up hw5 (by omega) (by omega)
      have c2 := c2.frm fw5 (by omega)
      have c3 := c3.frm2 fw5 (by omega)
      have c4 := c4.frm2 fw5 (by omega)
      have c5 := c5.frm fw5 (by omega)
      have c6 := c6.frm fw5 (by omega)
      have c7 := c7.frm fw5 (by omega)
      have c8 := c8.frm fw5 (by omega)
      have c9 := c9.frm fw5 (by omega)
      refine ww_aload0 C dX6_lay_82 ?_
      refine ww_getf C fl_X6_29 c1 rfl dX6_lay_83 ?_
      refine ww_getf C fl_X6_65 c5.1 rfl dX6_lay_86 ?_
      refine ww_getf C fl_X6_92 c5.2.1.1 rfl dX6_lay_89 ?_
      exact ww_riq C dX6_lay_92 rfl ⟨Nat.le_of_ble_eq_true rfl, Nat.le_of_ble_eq_true rfl⟩ (by unfold V_lay; rw [if_pos (And.intro c13 (fun e => c26 (hAg.1.trans e))), hAg.1]) ⟨h2, (h2.1, h2.2.1, h2.2.2.1, a.2.2.2.1, 0), 0, ⟨dr, hi, _, _, _, _, _, ⟨by omega, c1, c2, c4, c3, c5, c6, c7, c8, c9, by omega⟩, fun e => absurd e (by omega), fun e => absurd e (by omega)⟩, (((((hf1.tr (fw2.wide (by omega) (by omega))).tr (fw3.wide (by omega) (by omega))).tr (hfu.wide (by omega) (by omega))).tr (hf4.wide (by omega) (by omega))).tr (fw5.wide (by omega) (by omega))), fun _ => ⟨hAg, rfl, rfl⟩, fun e => absurd (And.intro c13 (fun e => c26 (hAg.1.trans e))) e⟩
    · skip
      refine ww_bipush C (v := -2) dX6_lay_29 (by decide) ?_
      exact ww_riq C dX6_lay_31 rfl ⟨Nat.le_of_ble_eq_true rfl, Nat.le_of_ble_eq_true rfl⟩ (by unfold V_lay; rw [if_neg (fun e => e.2 (hAg.1.symm.trans c26))]) ⟨h, a, kn, ⟨_, _, _, _, _, _, _, hC, hq1, hq2⟩, hf1, fun e => absurd e (fun e => e.2 (hAg.1.symm.trans c26)), fun _ => ⟨rfl, rfl, rfl⟩⟩
