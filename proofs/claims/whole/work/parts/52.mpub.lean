/-- the names of the model's book bk -/
def RN (A : Nat → Nat → Nat) (bk p : Nat) (K M S : Nat → Nat) : Prop := ∀ i, i < p → A 11 (8 * bk + i) = K i ∧ A 12 (8 * bk + i) = M i ∧ ∀ q, q < M i → A 13 (10 * (8 * bk + i) + q) = S (10 * i + q)
def RE (A : Nat → Nat → Nat) (bk : Nat) (hd : Nat → Nat) (m : Nat) : Prop := A 14 bk = m ∧ ∀ j, j < m → A 15 (12 * bk + j) = hd j
def RH (A : Nat → Nat → Nat) (h : Hs) : Prop := A 1 0 = h.2.2.2.1 ∧ (∀ i, i < h.2.2.2.1 → A 5 i = h.2.2.2.2.1 i ∧ A 6 i = h.2.2.2.2.2.1 i) ∧ (∀ d, d < 6 → A 7 d = h.2.2.2.2.2.2.1 d ∧ A 8 d = h.2.2.2.2.2.2.2.1 d ∧ A 9 d = h.2.2.2.2.2.2.2.2.1 d) ∧ A 10 0 = h.2.2.2.2.2.2.2.2.2.1 ∧ A 10 1 = h.2.2.2.2.2.2.2.2.2.2.1 ∧ A 10 2 = h.2.2.2.2.2.2.2.2.2.2.2
/-- the model's rows hold what the class's hold -/
def Rl (A : Nat → Nat → Nat) (t : Nat → Nat) (len : Nat) (h : Hs) (a : Ms) (kn : Nat) (k1 k2 : Ms) : Prop := len ≤ 400 ∧ kn ≤ 2 ∧ (∀ j, j < len → A 0 j = t j) ∧ RH A h ∧ RN A 0 h.2.2.2.1 a.1 a.2.1 a.2.2.1 ∧ RE A 0 a.2.2.2.1 a.2.2.2.2 ∧ (1 ≤ kn → RN A 2 h.2.2.2.1 k1.1 k1.2.1 k1.2.2.1 ∧ RE A 1 k1.2.2.2.1 k1.2.2.2.2) ∧ (2 ≤ kn → RN A 3 h.2.2.2.1 k2.1 k2.2.1 k2.2.2.1 ∧ RE A 2 k2.2.2.2.1 k2.2.2.2.2)
def MR (w : Wd) (t : Nat → Nat) (len : Nat) (h : Hs) (a : Ms) (kn : Nat) (k1 k2 : Ms) : Prop := ∃ A pl, MO w A len pl kn ∧ Rl A t len h a kn k1 k2
/-- bounds of a hill and of its names -/
def Bd (h : Hs) (a : Ms) : Prop := (1 ≤ h.2.2.2.1 ∧ h.2.2.2.1 ≤ 8) ∧ (1 ≤ h.2.2.2.2.2.2.2.2.2.1 ∧ h.2.2.2.2.2.2.2.2.2.1 ≤ 12 ∧ h.2.2.2.2.2.2.2.2.2.2.1 ≤ 20 ∧ h.2.2.2.2.2.2.2.2.2.2.2 ≤ 9) ∧ (∀ i, a.1 i ≤ 3) ∧ (∀ i, a.2.1 i ≤ 10) ∧ (∀ i, a.2.2.1 i ≤ 5) ∧ (∀ i, i < h.2.2.2.1 → 1 ≤ a.2.1 i) ∧ (∀ i, h.2.2.2.2.1 i ≤ 99) ∧ (∀ i, h.2.2.2.2.2.1 i ≤ 9) ∧ (∀ i, h.2.2.2.2.2.2.1 i ≤ 5) ∧ (∀ i, h.2.2.2.2.2.2.2.1 i ≤ 1) ∧ (∀ i, h.2.2.2.2.2.2.2.2.1 i ≤ 9) ∧ (∀ j, a.2.2.2.1 j ≤ 9) ∧ a.2.2.2.2 ≤ 12
/-- the same, as far as it is seen -/
def Sm (B A : Nat → Nat → Nat) : Prop := B 0 = A 0 ∧ B 1 0 = A 1 0 ∧ (∀ i, i < 8 → B 5 i = A 5 i ∧ B 6 i = A 6 i) ∧ (∀ d, d < 6 → B 7 d = A 7 d ∧ B 8 d = A 8 d ∧ B 9 d = A 9 d) ∧ (∀ k, k < 3 → B 10 k = A 10 k) ∧ (∀ j, (j < 8 ∨ 16 ≤ j) → B 11 j = A 11 j ∧ B 12 j = A 12 j) ∧ (∀ j, (j < 80 ∨ 160 ≤ j) → B 13 j = A 13 j) ∧ B 14 = A 14 ∧ B 15 = A 15
theorem Sm.all {B A : Nat → Nat → Nat} (h : ∀ a, a < 16 → B a = A a) : Sm B A := ⟨h 0 (by decide), congrFun (h 1 (by decide)) 0, fun i _ => ⟨congrFun (h 5 (by decide)) i, congrFun (h 6 (by decide)) i⟩, fun i _ => ⟨congrFun (h 7 (by decide)) i, congrFun (h 8 (by decide)) i, congrFun (h 9 (by decide)) i⟩, fun i _ => congrFun (h 10 (by decide)) i, fun i _ => ⟨congrFun (h 11 (by decide)) i, congrFun (h 12 (by decide)) i⟩, fun i _ => congrFun (h 13 (by decide)) i, h 14 (by decide), h 15 (by decide)⟩
theorem Sm.rf (A : Nat → Nat → Nat) : Sm A A := Sm.all (fun _ _ => rfl)
theorem Sm.tr {C0 B A : Nat → Nat → Nat} (h : Sm B A) (e : Sm C0 B) : Sm C0 A := by
  obtain ⟨a1, a2, a3, a4, a5, a6, a7, a8, a9⟩ := h
  obtain ⟨b1, b2, b3, b4, b5, b6, b7, b8, b9⟩ := e
  exact ⟨b1.trans a1, b2.trans a2, fun i hi => ⟨(b3 i hi).1.trans (a3 i hi).1, (b3 i hi).2.trans (a3 i hi).2⟩, fun i hi => ⟨(b4 i hi).1.trans (a4 i hi).1, (b4 i hi).2.1.trans (a4 i hi).2.1, (b4 i hi).2.2.trans (a4 i hi).2.2⟩, fun i hi => (b5 i hi).trans (a5 i hi), fun i hi => ⟨(b6 i hi).1.trans (a6 i hi).1, (b6 i hi).2.trans (a6 i hi).2⟩, fun i hi => (b7 i hi).trans (a7 i hi), b8.trans a8, b9.trans a9⟩
theorem RN.sm {B A : Nat → Nat → Nat} {bk p : Nat} {K M S : Nat → Nat} (e : Sm B A) (hp : p ≤ 8) (hM : ∀ i, M i ≤ 10) (hb : bk = 0 ∨ 2 ≤ bk) (h : RN A bk p K M S) : RN B bk p K M S := by
  obtain ⟨a1, a2, a3, a4, a5, a6, a7, a8, a9⟩ := e
  intro i hi
  have h1 := hM i
  exact ⟨(a6 _ (by omega)).1.trans (h i hi).1, (a6 _ (by omega)).2.trans (h i hi).2.1, fun q hq => (a7 _ (by omega)).trans ((h i hi).2.2 q hq)⟩
theorem RE.sm {B A : Nat → Nat → Nat} {bk m : Nat} {hd : Nat → Nat} (e : Sm B A) (h : RE A bk hd m) : RE B bk hd m := ⟨(congrFun e.2.2.2.2.2.2.2.1 _).trans h.1, fun j hj => (congrFun e.2.2.2.2.2.2.2.2 _).trans (h.2 j hj)⟩
theorem RH.sm {B A : Nat → Nat → Nat} {h : Hs} (hp : h.2.2.2.1 ≤ 8) (e : Sm B A) (q : RH A h) : RH B h := by
  obtain ⟨a1, a2, a3, a4, a5, a6, a7, a8, a9⟩ := e
  obtain ⟨q1, q2, q3, q4, q5, q6⟩ := q
  exact ⟨a2.trans q1, fun i hi => ⟨(a3 i (by omega)).1.trans (q2 i hi).1, (a3 i (by omega)).2.trans (q2 i hi).2⟩, fun d hd => ⟨(a4 d hd).1.trans (q3 d hd).1, (a4 d hd).2.1.trans (q3 d hd).2.1, (a4 d hd).2.2.trans (q3 d hd).2.2⟩, (a5 0 (by decide)).trans q4, (a5 1 (by decide)).trans q5, (a5 2 (by decide)).trans q6⟩
/-- the bounds of what is kept -/
def Bk (kn : Nat) (k1 k2 : Ms) : Prop := (1 ≤ kn → (∀ i, k1.2.1 i ≤ 10) ∧ k1.2.2.2.2 ≤ 12) ∧ (2 ≤ kn → (∀ i, k2.2.1 i ≤ 10) ∧ k2.2.2.2.2 ≤ 12)
theorem Rl.sm {B A : Nat → Nat → Nat} {t : Nat → Nat} {len : Nat} {h : Hs} {a : Ms} {kn : Nat} {k1 k2 : Ms} (hB : Bd h a) (hk : Bk kn k1 k2) (e : Sm B A) (q : Rl A t len h a kn k1 k2) : Rl B t len h a kn k1 k2 := by
  obtain ⟨q0, q1, q2, q3, q4, q5, q6, q7⟩ := q
  exact ⟨q0, q1, fun j hj => (congrFun e.1 j).trans (q2 j hj), q3.sm hB.1.2 e, q4.sm e hB.1.2 hB.2.2.2.1 (Or.inl rfl), q5.sm e, fun c => ⟨(q6 c).1.sm e hB.1.2 (hk.1 c).1 (Or.inr (by decide)), (q6 c).2.sm e⟩, fun c => ⟨(q7 c).1.sm e hB.1.2 (hk.2 c).1 (Or.inr (by decide)), (q7 c).2.sm e⟩⟩
theorem m_sayNow (g : Gx) (n : Nat) (w : Wd) {t : Nat → Nat} {len pl : Nat} {h : Hs} {a : Ms} {kn : Nat} {k1 k2 : Ms} {A : Nat → Nat → Nat} (hM : MO w A len pl kn) (hRl : Rl A t len h a kn k1 k2) (hB : Bd h a) (hBk : Bk kn k1 k2) : CT g yX7_sayNow cX7_sayNow 1 none rm_X7_sayNow n n w [.ref 59] (R0q (fun w1 => ∃ B, MO w1 B len pl kn ∧ fr w w1 59 83 ∧ (∀ a, ¬ a = 17 → ¬ a = 18 → ¬ a = 19 → B a = A a) ∧ Rl B t len h a kn k1 k2 ∧ Sd B h.2.2.2.1 a.1 a.2.1 a.2.2.1 h.2.2.2.2.2.2.2.2.1)) := by
  have hf : fr w w 59 83 := fr.rf
  obtain ⟨⟨hp1, hp8⟩, ⟨hb1, hb12, hv20, hmi9⟩, hK3, hM10, hS5, hM1, hX99, hR9, hwo5, hsh1, hbe9, hhd9, hhn12⟩ := id hB
  obtain ⟨hln, hkn2, htx, hRH, hRN, hRE, hk1r, hk2r⟩ := id hRl
  obtain ⟨rp, rX, rw_, rb, rv, rm_⟩ := id hRH
  refine CT.start [some (.ref 59)] (by decide +kernel) rfl (Nat.le_of_ble_eq_true rfl) (fun x C hnm => ?_)
  refine ww_aload0 C dX7_sayNow_0 ?_
  refine ww_iconst C (v := nI 0) dX7_sayNow_1 (by decide) ?_
  refine ww_bipush C (v := -4) dX7_sayNow_2 (by decide) ?_
  refine ww_bipush C (v := -4) dX7_sayNow_4 (by decide) ?_
  refine ww_cV30q C hM.1 rfl (m_laySaid g n w hM rp hp8 (bk := 0) (by omega) (ow := none) (mo := -4) (K := a.1) (M := a.2.1) (S := a.2.2.1) (be := h.2.2.2.2.2.2.2.2.1) (fun k e => by cases e) (fun i hi => ⟨(hRN i hi).1, hK3 i⟩) (fun i hi => ⟨by rw [if_neg (fun e => by cases e)]; exact (hRN i hi).2.1, hM1 i hi, hM10 i⟩) (fun i hi q hq => ⟨hS5 _, Or.inr ⟨(fun e => by cases e.1), (hRN i hi).2.2 q hq⟩⟩) (fun d hd => ⟨(rw_ d hd).2.2, hbe9 d⟩)) kV_X7_135 ⟨Nat.le_of_ble_eq_true rfl, Nat.le_of_ble_eq_true rfl⟩ ⟨rfl, rfl⟩ ⟨Nat.le_of_ble_eq_true rfl, Nat.le_of_ble_eq_true rfl⟩ (Nat.le_of_ble_eq_true rfl) dX7_sayNow_6 (fun w1 hw1 => ?_)
  obtain ⟨B, hM1, hf1, hBo, hSd⟩ := hw1
  exact ww_rvq C dX7_sayNow_9 rfl ⟨Nat.le_of_ble_eq_true rfl, Nat.le_of_ble_eq_true rfl⟩ ⟨B, hM1, hf1, hBo, hRl.sm hB hBk (Sm.all (fun a ha => hBo a (by omega) (by omega) (by omega))), hSd⟩
theorem m_person (g : Gx) (n : Nat) (w : Wd) {t : Nat → Nat} {len : Nat} {h : Hs} {a : Ms} {kn : Nat} {k1 k2 : Ms} (hMR : MR w t len h a kn k1 k2) (hB : Bd h a) (hBk : Bk kn k1 k2) (i what : Int32) : CT g yX7_person cX7_person 3 (some .int) rm_X7_person n n w [.ref 59, .int i, .int what] (Rq (.int (V_person h a i what)) (fun w1 => MR w1 t len h a kn k1 k2 ∧ fr w w1 59 83)) := by
  obtain ⟨A, pl, hM, hRl⟩ := id hMR
  have hf : fr w w 59 83 := fr.rf
  obtain ⟨⟨hp1, hp8⟩, ⟨hb1, hb12, hv20, hmi9⟩, hK3, hM10, hS5, hM1, hX99, hR9, hwo5, hsh1, hbe9, hhd9, hhn12⟩ := id hB
  obtain ⟨hln, hkn2, htx, hRH, hRN, hRE, hk1r, hk2r⟩ := id hRl
  obtain ⟨rp, rX, rw_, rb, rv, rm_⟩ := id hRH
  refine CT.start [some (.ref 59), some (.int i), some (.int what)] (by decide +kernel) rfl (Nat.le_of_ble_eq_true rfl) (fun x C hnm => ?_)
  refine ww_aload0 C dX7_person_0 ?_
  refine ww_iload1 C dX7_person_1 ?_
  refine ww_cV1v C hM.1 rfl (m_isPerson g n w hM _ rp hp8) kV_X7_139 ⟨Nat.le_of_ble_eq_true rfl, Nat.le_of_ble_eq_true rfl⟩ ⟨rfl, rfl⟩ ⟨Nat.le_of_ble_eq_true rfl, Nat.le_of_ble_eq_true rfl⟩ (Nat.le_of_ble_eq_true rfl) dX7_person_2 ?_
  refine ww_ifeqB C (tgt := 20) dX7_person_5 (by decide) (fun c5 => ?_) (fun c5 => ?_)
  · skip
    refine ww_iconst C (v := -1) dX7_person_20 (by decide) ?_
    exact ww_riq C dX7_person_21 rfl ⟨Nat.le_of_ble_eq_true rfl, Nat.le_of_ble_eq_true rfl⟩ (by unfold V_person; rw [if_neg (by rw [c5]; decide)]) ⟨hMR, fr.rf⟩
  · skip
    obtain ⟨j, hj, rfl⟩ := hb_of c5
    have hcj : (nI j).toNatClampNeg = j := cl_nI (by omega)
    refine ww_iload2 C dX7_person_8 ?_
    refine ww_i2l C dX7_person_9 ?_
    refine ww_lconst C (v := lN 0) dX7_person_10 (by decide) ?_
    refine ww_ldc2 C (v := 5) kc_X7_143 dX7_person_11 ?_
    refine ww_topl (show (5 : Int64) = lN 5 by decide) ?_
    refine ww_cS3v C (c_inR g n w _ _ _) kS_X7_88 ⟨Nat.le_of_ble_eq_true rfl, Nat.le_of_ble_eq_true rfl⟩ ⟨rfl, rfl⟩ ⟨Nat.le_of_ble_eq_true rfl, Nat.le_of_ble_eq_true rfl⟩ (Nat.le_of_ble_eq_true rfl) dX7_person_14 ?_
    refine ww_topi (show bz _ = bz (wb (nI 0) (nI 5) what) by rw [in_W (by decide) (by decide)]) ?_
    refine ww_ifneB C (tgt := 22) dX7_person_17 (by decide) (fun c17 => ?_) (fun c17 => ?_)
    · skip
      refine ww_aload0 C dX7_person_22 ?_
      refine ww_cV00q C hM.1 rfl (m_sayNow g n w hM hRl hB hBk) kV_X7_145 ⟨Nat.le_of_ble_eq_true rfl, Nat.le_of_ble_eq_true rfl⟩ ⟨rfl, rfl⟩ ⟨Nat.le_of_ble_eq_true rfl, Nat.le_of_ble_eq_true rfl⟩ (Nat.le_of_ble_eq_true rfl) dX7_person_23 (fun w1 hw1 => ?_)
      obtain ⟨B, hM, hf1, hBo, hRl, hSd⟩ := hw1
      have hf := hf.tr hf1
      refine ww_iload2 C dX7_person_26 ?_
      by_cases e0 : what = nI 0
      · subst e0
        refine ww_tabIn C (tgt := 60) dX7_person_27 (by decide) (by decide) rfl (by decide) ?_
        refine ww_aload0 C dX7_person_60 ?_
        refine ww_getf C fl_X7_43 hM.1 rfl dX7_person_61 ?_
        refine ww_iload1 C dX7_person_64 ?_
        refine ww_ialdN C hM.a11 (by omega) dX7_person_65 (kk := ?_)
        exact ww_riq C dX7_person_66 rfl ⟨Nat.le_of_ble_eq_true rfl, Nat.le_of_ble_eq_true rfl⟩ (by unfold V_person; rw [if_pos c5, if_pos rfl, hcj, (by have := ((congrFun (hBo 11 (by decide) (by decide) (by decide)) (8 * 0 + j)).trans (hRN j hj).1); rw [show 8 * 0 + j = j by omega] at this; exact this : B 11 j = a.1 j)]) ⟨⟨B, pl, hM, hRl⟩, hf⟩
      · skip
        by_cases e1 : what = nI 1
        · subst e1
          refine ww_tabIn C (tgt := 67) dX7_person_27 (by decide) (by decide) rfl (by decide) ?_
          refine ww_aload0 C dX7_person_67 ?_
          refine ww_getf C fl_X7_25 hM.1 rfl dX7_person_68 ?_
          refine ww_iload1 C dX7_person_71 ?_
          refine ww_ialdN C hM.a5 (by omega) dX7_person_72 (kk := ?_)
          exact ww_riq C dX7_person_73 rfl ⟨Nat.le_of_ble_eq_true rfl, Nat.le_of_ble_eq_true rfl⟩ (by unfold V_person; rw [if_pos c5, if_neg (by decide), if_pos rfl, hcj, (congrFun (hBo 5 (by decide) (by decide) (by decide)) _).trans (rX j hj).1]) ⟨⟨B, pl, hM, hRl⟩, hf⟩
        · skip
          by_cases e2 : what = nI 2
          · subst e2
            refine ww_tabIn C (tgt := 74) dX7_person_27 (by decide) (by decide) rfl (by decide) ?_
            refine ww_aload0 C dX7_person_74 ?_
            refine ww_getf C fl_X7_28 hM.1 rfl dX7_person_75 ?_
            refine ww_iload1 C dX7_person_78 ?_
            refine ww_ialdN C hM.a6 (by omega) dX7_person_79 (kk := ?_)
            exact ww_riq C dX7_person_80 rfl ⟨Nat.le_of_ble_eq_true rfl, Nat.le_of_ble_eq_true rfl⟩ (by unfold V_person; rw [if_pos c5, if_neg (by decide), if_neg (by decide), if_pos rfl, hcj, (congrFun (hBo 6 (by decide) (by decide) (by decide)) _).trans (rX j hj).2]) ⟨⟨B, pl, hM, hRl⟩, hf⟩
          · skip
            by_cases e3 : what = nI 3
            · subst e3
              refine ww_tabIn C (tgt := 81) dX7_person_27 (by decide) (by decide) rfl (by decide) ?_
              refine ww_aload0 C dX7_person_81 ?_
              refine ww_getf C fl_X7_46 hM.1 rfl dX7_person_82 ?_
              refine ww_iload1 C dX7_person_85 ?_
              refine ww_ialdN C hM.a12 (by omega) dX7_person_86 (kk := ?_)
              exact ww_riq C dX7_person_87 rfl ⟨Nat.le_of_ble_eq_true rfl, Nat.le_of_ble_eq_true rfl⟩ (by unfold V_person; rw [if_pos c5, if_neg (by decide), if_neg (by decide), if_neg (by decide), if_pos rfl, hcj, (by have := ((congrFun (hBo 12 (by decide) (by decide) (by decide)) (8 * 0 + j)).trans (hRN j hj).2.1); rw [show 8 * 0 + j = j by omega] at this; exact this : B 12 j = a.2.1 j)]) ⟨⟨B, pl, hM, hRl⟩, hf⟩
            · skip
              by_cases e4 : what = nI 4
              · subst e4
                refine ww_tabIn C (tgt := 88) dX7_person_27 (by decide) (by decide) rfl (by decide) ?_
                refine ww_aload0 C dX7_person_88 ?_
                refine ww_getf C fl_X7_64 hM.1 rfl dX7_person_89 ?_
                refine ww_iload1 C dX7_person_92 ?_
                refine ww_ialdN C hM.a18 (by omega) dX7_person_93 (kk := ?_)
                exact ww_riq C dX7_person_94 rfl ⟨Nat.le_of_ble_eq_true rfl, Nat.le_of_ble_eq_true rfl⟩ (by unfold V_person; rw [if_pos c5, if_neg (by decide), if_neg (by decide), if_neg (by decide), if_neg (by decide), if_pos rfl, hcj, (hSd j hj).1]) ⟨⟨B, pl, hM, hRl⟩, hf⟩
              · skip
                refine ww_tabOut C (tgt := 95) dX7_person_27 (sw_out (m := 4) (by decide) (fun k hk => by rcases (show k = 0 ∨ k = 1 ∨ k = 2 ∨ k = 3 ∨ k = 4 by omega) with rfl | rfl | rfl | rfl | rfl <;> assumption)) (by decide) ?_
                have e5 : what = nI 5 := by
                  obtain ⟨q, hq0, hq5, rfl⟩ := wb_of (by decide) (by decide) c17
                  rcases (show q = 0 ∨ q = 1 ∨ q = 2 ∨ q = 3 ∨ q = 4 ∨ q = 5 by omega) with rfl | rfl | rfl | rfl | rfl | rfl <;> first | rfl | contradiction
                refine ww_aload0 C dX7_person_95 ?_
                refine ww_getf C fl_X7_67 hM.1 rfl dX7_person_96 ?_
                refine ww_iload1 C dX7_person_99 ?_
                refine ww_ialdN C hM.a19 (by omega) dX7_person_100 (kk := ?_)
                exact ww_riq C dX7_person_101 rfl ⟨Nat.le_of_ble_eq_true rfl, Nat.le_of_ble_eq_true rfl⟩ (by unfold V_person; rw [if_pos c5, if_neg e0, if_neg e1, if_neg e2, if_neg e3, if_neg e4, if_pos e5, hcj, (hSd j hj).2.1]) ⟨⟨B, pl, hM, hRl⟩, hf⟩
    · skip
      have nk : ∀ k : Nat, k ≤ 5 → ¬ what = nI k := fun k hk e => by rw [e, wb_N (by decide) (by decide) (by omega), decide_eq_true (by omega)] at c17; cases c17
      refine ww_iconst C (v := -1) dX7_person_20 (by decide) ?_
      exact ww_riq C dX7_person_21 rfl ⟨Nat.le_of_ble_eq_true rfl, Nat.le_of_ble_eq_true rfl⟩ (by unfold V_person; rw [if_pos c5, if_neg (nk 0 (by omega)), if_neg (nk 1 (by omega)), if_neg (nk 2 (by omega)), if_neg (nk 3 (by omega)), if_neg (nk 4 (by omega)), if_neg (nk 5 (by omega))]) ⟨hMR, fr.rf⟩
theorem m_said (g : Gx) (n : Nat) (w : Wd) {t : Nat → Nat} {len : Nat} {h : Hs} {a : Ms} {kn : Nat} {k1 k2 : Ms} (hMR : MR w t len h a kn k1 k2) (hB : Bd h a) (hBk : Bk kn k1 k2) (i k : Int32) : CT g yX7_said cX7_said 3 (some .int) rm_X7_said n n w [.ref 59, .int i, .int k] (Rq (.int (V_said h a i k)) (fun w1 => MR w1 t len h a kn k1 k2 ∧ fr w w1 59 83)) := by
  obtain ⟨A, pl, hM, hRl⟩ := id hMR
  have hf : fr w w 59 83 := fr.rf
  obtain ⟨⟨hp1, hp8⟩, ⟨hb1, hb12, hv20, hmi9⟩, hK3, hM10, hS5, hM1, hX99, hR9, hwo5, hsh1, hbe9, hhd9, hhn12⟩ := id hB
  obtain ⟨hln, hkn2, htx, hRH, hRN, hRE, hk1r, hk2r⟩ := id hRl
  obtain ⟨rp, rX, rw_, rb, rv, rm_⟩ := id hRH
  refine CT.start [some (.ref 59), some (.int i), some (.int k)] (by decide +kernel) rfl (Nat.le_of_ble_eq_true rfl) (fun x C hnm => ?_)
  refine ww_aload0 C dX7_said_0 ?_
  refine ww_iload1 C dX7_said_1 ?_
  refine ww_cV1v C hM.1 rfl (m_isPerson g n w hM _ rp hp8) kV_X7_139 ⟨Nat.le_of_ble_eq_true rfl, Nat.le_of_ble_eq_true rfl⟩ ⟨rfl, rfl⟩ ⟨Nat.le_of_ble_eq_true rfl, Nat.le_of_ble_eq_true rfl⟩ (Nat.le_of_ble_eq_true rfl) dX7_said_2 ?_
  refine ww_ifeqB C (tgt := 20) dX7_said_5 (by decide) (fun c5 => ?_) (fun c5 => ?_)
  · skip
    refine ww_iconst C (v := -1) dX7_said_20 (by decide) ?_
    exact ww_riq C dX7_said_21 rfl ⟨Nat.le_of_ble_eq_true rfl, Nat.le_of_ble_eq_true rfl⟩ (by unfold V_said; rw [if_neg (fun e => by rw [c5] at e; cases e.1)]) ⟨hMR, fr.rf⟩
  · skip
    obtain ⟨j, hj, rfl⟩ := hb_of c5
    have hcj : (nI j).toNatClampNeg = j := cl_nI (by omega)
    refine ww_iload2 C dX7_said_8 ?_
    refine ww_i2l C dX7_said_9 ?_
    refine ww_lconst C (v := lN 0) dX7_said_10 (by decide) ?_
    refine ww_ldc2 C (v := 19) kc_X7_148 dX7_said_11 ?_
    refine ww_topl (show (19 : Int64) = lN 19 by decide) ?_
    refine ww_cS3v C (c_inR g n w _ _ _) kS_X7_88 ⟨Nat.le_of_ble_eq_true rfl, Nat.le_of_ble_eq_true rfl⟩ ⟨rfl, rfl⟩ ⟨Nat.le_of_ble_eq_true rfl, Nat.le_of_ble_eq_true rfl⟩ (Nat.le_of_ble_eq_true rfl) dX7_said_14 ?_
    refine ww_topi (show bz _ = bz (wb (nI 0) (nI 19) k) by rw [in_W (by decide) (by decide)]) ?_
    refine ww_ifneB C (tgt := 22) dX7_said_17 (by decide) (fun c17 => ?_) (fun c17 => ?_)
    · skip
      obtain ⟨q, hq0, hqm, rfl⟩ := wb_of (by decide) (by decide) c17
      have hcq : (nI q).toNatClampNeg = q := cl_nI (by omega)
      refine ww_aload0 C dX7_said_22 ?_
      refine ww_cV00q C hM.1 rfl (m_sayNow g n w hM hRl hB hBk) kV_X7_145 ⟨Nat.le_of_ble_eq_true rfl, Nat.le_of_ble_eq_true rfl⟩ ⟨rfl, rfl⟩ ⟨Nat.le_of_ble_eq_true rfl, Nat.le_of_ble_eq_true rfl⟩ (Nat.le_of_ble_eq_true rfl) dX7_said_23 (fun w1 hw1 => ?_)
      obtain ⟨B, hM, hf1, hBo, hRl, hSd⟩ := hw1
      have hf := hf.tr hf1
      refine ww_iload2 C dX7_said_26 ?_
      refine ww_aload0 C dX7_said_27 ?_
      refine ww_getf C fl_X7_64 hM.1 rfl dX7_said_28 ?_
      refine ww_iload1 C dX7_said_31 ?_
      refine ww_ialdN C hM.a18 (by omega) dX7_said_32 (kk := ?_)
      rw [(hSd j hj).1]
      refine ww_icmpgeN C (by have := longN_le (K := a.1) (hM10 j); omega) (tgt := 50) dX7_said_33 (by decide) (fun c33 => ?_) (fun c33 => ?_)
      · skip
        refine ww_bipush C (v := -4) dX7_said_50 (by decide) ?_
        exact ww_riq C dX7_said_52 rfl ⟨Nat.le_of_ble_eq_true rfl, Nat.le_of_ble_eq_true rfl⟩ (by unfold V_said; rw [if_pos ⟨c5, c17⟩, hcj, hcq, if_neg (by omega)]) ⟨⟨B, pl, hM, hRl⟩, hf⟩
      · skip
        refine ww_aload0 C dX7_said_36 ?_
        refine ww_getf C fl_X7_61 hM.1 rfl dX7_said_37 ?_
        refine ww_bipush C (v := nI 20) dX7_said_40 (by decide) ?_
        refine ww_iload1 C dX7_said_42 ?_
        refine ww_imulN C dX7_said_43 ?_
        refine ww_iload2 C dX7_said_44 ?_
        refine ww_iaddN C dX7_said_45 ?_
        refine ww_ialdN C hM.a17 (by omega) dX7_said_46 (kk := ?_)
        refine ww_goto C (tgt := 52) dX7_said_47 (by decide) ?_
        exact ww_riq C dX7_said_52 rfl ⟨Nat.le_of_ble_eq_true rfl, Nat.le_of_ble_eq_true rfl⟩ (by unfold V_said; rw [if_pos ⟨c5, c17⟩, hcj, hcq, if_pos c33, (hSd j hj).2.2 q c33]) ⟨⟨B, pl, hM, hRl⟩, hf⟩
    · skip
      refine ww_iconst C (v := -1) dX7_said_20 (by decide) ?_
      exact ww_riq C dX7_said_21 rfl ⟨Nat.le_of_ble_eq_true rfl, Nat.le_of_ble_eq_true rfl⟩ (by unfold V_said; rw [if_neg (fun e => by rw [c17] at e; cases e.2)]) ⟨hMR, fr.rf⟩
theorem RN.same {B A : Nat → Nat → Nat} {bk p : Nat} {K M S : Nat → Nat} (h1 : ∀ i, i < p → B 11 (8 * bk + i) = A 11 (8 * bk + i)) (h2 : ∀ i, i < p → B 12 (8 * bk + i) = A 12 (8 * bk + i)) (h3 : ∀ i, i < p → ∀ q, q < M i → B 13 (10 * (8 * bk + i) + q) = A 13 (10 * (8 * bk + i) + q)) (h : RN A bk p K M S) : RN B bk p K M S := fun i hi => ⟨(h1 i hi).trans (h i hi).1, (h2 i hi).trans (h i hi).2.1, fun q hq => (h3 i hi q hq).trans ((h i hi).2.2 q hq)⟩
/-- book 0 of the names is changed -/
theorem Rl.now {B A : Nat → Nat → Nat} {t : Nat → Nat} {len : Nat} {h : Hs} {a a2 : Ms} {kn : Nat} {k1 k2 : Ms} (hB : Bd h a) (hk : Bk kn k1 k2) (e : ∀ b, b < 11 → B b = A b) (h11 : ∀ j, 8 ≤ j → B 11 j = A 11 j) (h12 : ∀ j, 8 ≤ j → B 12 j = A 12 j) (h13 : ∀ j, 80 ≤ j → B 13 j = A 13 j) (h14 : ∀ j, 1 ≤ j → B 14 j = A 14 j) (h15 : ∀ j, 12 ≤ j → B 15 j = A 15 j) (hN : RN B 0 h.2.2.2.1 a2.1 a2.2.1 a2.2.2.1) (hE : RE B 0 a2.2.2.2.1 a2.2.2.2.2) (q : Rl A t len h a kn k1 k2) : Rl B t len h a2 kn k1 k2 := by
  obtain ⟨q0, q1, q2, q3, q4, q5, q6, q7⟩ := q
  have hp8 := hB.1.2
  obtain ⟨r1, r2, r3, r4, r5, r6⟩ := q3
  refine ⟨q0, q1, fun j hj => (congrFun (e 0 (by decide)) j).trans (q2 j hj), ⟨by rw [e 1 (by decide)]; exact r1, by rw [e 5 (by decide), e 6 (by decide)]; exact r2, by rw [e 7 (by decide), e 8 (by decide), e 9 (by decide)]; exact r3, by rw [e 10 (by decide)]; exact r4, by rw [e 10 (by decide)]; exact r5, by rw [e 10 (by decide)]; exact r6⟩, hN, hE, fun c => ⟨(q6 c).1.same (fun i hi => h11 _ (by omega)) (fun i hi => h12 _ (by omega)) (fun i hi q hq => h13 _ (by omega)), ?_, ?_⟩, fun c => ⟨(q7 c).1.same (fun i hi => h11 _ (by omega)) (fun i hi => h12 _ (by omega)) (fun i hi q hq => h13 _ (by omega)), ?_, ?_⟩⟩
  · exact (h14 1 (by omega)).trans (q6 c).2.1
  · exact fun j hj => (h15 _ (by omega)).trans ((q6 c).2.2 j hj)
  · exact (h14 2 (by omega)).trans (q7 c).2.1
  · exact fun j hj => (h15 _ (by omega)).trans ((q7 c).2.2 j hj)
theorem m_kind (g : Gx) (n : Nat) (w : Wd) {t : Nat → Nat} {len : Nat} {h : Hs} {a : Ms} {kn : Nat} {k1 k2 : Ms} (hMR : MR w t len h a kn k1 k2) (hB : Bd h a) (hBk : Bk kn k1 k2) (i k : Int32) : CT g yX7_kind cX7_kind 4 (some .int) rm_X7_kind n n w [.ref 59, .int i, .int k] (Rq (.int (V_kind h a i k)) (fun w1 => MR w1 t len h (A_kind h a i k) kn k1 k2 ∧ fr w w1 59 83)) := by
  obtain ⟨A, pl, hM, hRl⟩ := id hMR
  have hf : fr w w 59 83 := fr.rf
  obtain ⟨⟨hp1, hp8⟩, ⟨hb1, hb12, hv20, hmi9⟩, hK3, hM10, hS5, hM1, hX99, hR9, hwo5, hsh1, hbe9, hhd9, hhn12⟩ := id hB
  obtain ⟨hln, hkn2, htx, hRH, hRN, hRE, hk1r, hk2r⟩ := id hRl
  obtain ⟨rp, rX, rw_, rb, rv, rm_⟩ := id hRH
  refine CT.start [some (.ref 59), some (.int i), some (.int k), none] (by decide +kernel) rfl (Nat.le_of_ble_eq_true rfl) (fun x C hnm => ?_)
  refine ww_aload0 C dX7_kind_0 ?_
  refine ww_iload1 C dX7_kind_1 ?_
  refine ww_cV1v C hM.1 rfl (m_isPerson g n w hM _ rp hp8) kV_X7_139 ⟨Nat.le_of_ble_eq_true rfl, Nat.le_of_ble_eq_true rfl⟩ ⟨rfl, rfl⟩ ⟨Nat.le_of_ble_eq_true rfl, Nat.le_of_ble_eq_true rfl⟩ (Nat.le_of_ble_eq_true rfl) dX7_kind_2 ?_
  refine ww_ifeqB C (tgt := 20) dX7_kind_5 (by decide) (fun c5 => ?_) (fun c5 => ?_)
  · skip
    refine ww_iconst C (v := -1) dX7_kind_20 (by decide) ?_
    exact ww_riq C dX7_kind_21 rfl ⟨Nat.le_of_ble_eq_true rfl, Nat.le_of_ble_eq_true rfl⟩ (by unfold V_kind; rw [if_neg (fun e => by rw [c5] at e; cases e.1)]) ⟨by unfold A_kind; rw [if_neg (fun e => by rw [c5] at e; cases e.1)]; exact hMR, fr.rf⟩
  · skip
    obtain ⟨j, hj, rfl⟩ := hb_of c5
    have hcj : (nI j).toNatClampNeg = j := cl_nI (by omega)
    refine ww_iload2 C dX7_kind_8 ?_
    refine ww_i2l C dX7_kind_9 ?_
    refine ww_lconst C (v := lN 0) dX7_kind_10 (by decide) ?_
    refine ww_ldc2 C (v := 3) kc_X7_109 dX7_kind_11 ?_
    refine ww_topl (show (3 : Int64) = lN 3 by decide) ?_
    refine ww_cS3v C (c_inR g n w _ _ _) kS_X7_88 ⟨Nat.le_of_ble_eq_true rfl, Nat.le_of_ble_eq_true rfl⟩ ⟨rfl, rfl⟩ ⟨Nat.le_of_ble_eq_true rfl, Nat.le_of_ble_eq_true rfl⟩ (Nat.le_of_ble_eq_true rfl) dX7_kind_14 ?_
    refine ww_topi (show bz _ = bz (wb (nI 0) (nI 3) k) by rw [in_W (by decide) (by decide)]) ?_
    refine ww_ifneB C (tgt := 22) dX7_kind_17 (by decide) (fun c17 => ?_) (fun c17 => ?_)
    · skip
      obtain ⟨q, hq0, hqm, rfl⟩ := wb_of (by decide) (by decide) c17
      have hcq : (nI q).toNatClampNeg = q := cl_nI (by omega)
      refine ww_aload0 C dX7_kind_22 ?_
      refine ww_getf C fl_X7_43 hM.1 rfl dX7_kind_23 ?_
      refine ww_iload1 C dX7_kind_26 ?_
      refine ww_ialdN C hM.a11 (by omega) dX7_kind_27 (kk := ?_)
      refine ww_istore3 C dX7_kind_28 (by decide) rfl ?_
      refine ww_aload0 C dX7_kind_29 ?_
      refine ww_getf C fl_X7_43 hM.1 rfl dX7_kind_30 ?_
      refine ww_iload1 C dX7_kind_33 ?_
      refine ww_iload2 C dX7_kind_34 ?_
      refine ww_iastN C hM.a11 (by omega) dX7_kind_35 (kk := fun w1 hw1 => ?_)
      have hf : fr w w1 59 83 := hf.tr (fr.up hw1 (by omega) (by omega))
      obtain ⟨A1, hM, e1, o1⟩ := hM.st 11 (by decide) hw1
      refine ww_iload3 C dX7_kind_36 ?_
      exact ww_riq C dX7_kind_37 rfl ⟨Nat.le_of_ble_eq_true rfl, Nat.le_of_ble_eq_true rfl⟩ (by unfold V_kind; rw [if_pos ⟨c5, c17⟩, hcj, show A 11 j = a.1 j by (have := (hRN j hj).1; rw [show 8 * 0 + j = j by omega] at this; exact this)]) ⟨by unfold A_kind; rw [if_pos ⟨c5, c17⟩, hcj, hcq]; exact ⟨A1, pl, hM, hRl.now hB hBk (fun b hb => o1 b (by omega)) (fun j2 h2 => up_no e1 (by omega)) (fun j2 _ => congrFun (o1 12 (by decide)) j2) (fun j2 _ => congrFun (o1 13 (by decide)) j2) (fun j2 _ => congrFun (o1 14 (by decide)) j2) (fun j2 _ => congrFun (o1 15 (by decide)) j2) (fun i2 h2 => ⟨by rw [e1]; show va_up (A 11) j q (8 * 0 + i2) = va_up a.1 j q i2; by_cases c : i2 = j; (rw [c, va_upd_self, show 8 * 0 + j = j by omega, va_upd_self]); (rw [va_upd_ne _ _ c, va_upd_ne _ _ (by omega)]; exact (hRN i2 h2).1), by rw [o1 12 (by decide)]; exact (hRN i2 h2).2.1, by rw [o1 13 (by decide)]; exact (hRN i2 h2).2.2⟩) (by unfold RE; rw [o1 14 (by decide), o1 15 (by decide)]; exact hRE)⟩, hf⟩
    · skip
      refine ww_iconst C (v := -1) dX7_kind_20 (by decide) ?_
      exact ww_riq C dX7_kind_21 rfl ⟨Nat.le_of_ble_eq_true rfl, Nat.le_of_ble_eq_true rfl⟩ (by unfold V_kind; rw [if_neg (fun e => by rw [c17] at e; cases e.2)]) ⟨by unfold A_kind; rw [if_neg (fun e => by rw [c17] at e; cases e.2)]; exact hMR, fr.rf⟩
