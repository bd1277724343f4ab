theorem RN.deedL {B A : Nat → Nat → Nat} {bk p : Nat} {K M S : Nat → Nat} {i : Nat} (hi : i < p) (hp : p ≤ 8) (h : RN A bk p K M S) (h11 : B 11 = A 11) (h13 : B 13 = A 13) (h12 : B 12 = va_up (A 12) (8 * bk + i) (A 12 (8 * bk + i) - (if 1 < M i then 1 else 0))) : RN B bk p K (lM M i) S := by
  intro j hj
  rw [h11, h12, h13]
  have hle : lM M i j ≤ M j := by
    unfold lM
    split
    · by_cases c : j = i
      · rw [c, va_upd_self]; omega
      · rw [va_upd_ne _ _ c]; omega
    · omega
  refine ⟨(h j hj).1, ?_, fun q hq => (h j hj).2.2 q (by omega)⟩
  by_cases c : j = i
  · rw [c, va_upd_self, (h i hi).2.1]
    unfold lM
    by_cases c2 : 2 ≤ M i
    · rw [if_pos c2, va_upd_self, if_pos (by omega)]
    · rw [if_neg c2, if_neg (by omega), Nat.sub_zero]
  · rw [va_upd_ne _ _ (by omega), (h j hj).2.1]
    unfold lM
    split
    · rw [va_upd_ne _ _ c]
    · rfl
theorem RN.deedG {B A : Nat → Nat → Nat} {bk p : Nat} {K M S : Nat → Nat} {i s : Nat} (hi : i < p) (hp : p ≤ 8) (hM10 : ∀ j, M j ≤ 10) (hM : M i < 10) (h : RN A bk p K M S) (h11 : B 11 = A 11) (h13 : B 13 = va_up (A 13) (10 * (8 * bk + i) + M i) s) (h12 : B 12 = va_up (A 12) (8 * bk + i) (M i + 1)) : RN B bk p K (gM M i) (gS M S i s) := by
  intro j hj
  rw [h11, h12, h13]
  unfold gM gS
  rw [if_pos hM, if_pos hM]
  refine ⟨(h j hj).1, ?_, fun q hq => ?_⟩
  · by_cases c : j = i
    · rw [c, va_upd_self, va_upd_self]
    · rw [va_upd_ne _ _ (by omega), va_upd_ne _ _ c]; exact (h j hj).2.1
  · have := hM10 j
    by_cases c : j = i
    · rw [c] at hq ⊢
      rw [va_upd_self] at hq
      by_cases c2 : q = M i
      · rw [c2, va_upd_self, va_upd_self]
      · rw [va_upd_ne _ _ (by omega), va_upd_ne _ _ (by omega)]
        exact (h i hi).2.2 q (by omega)
    · rw [va_upd_ne _ _ c] at hq
      rw [va_upd_ne _ _ (by omega), va_upd_ne _ _ (by omega)]
      exact (h j hj).2.2 q hq
/-- rows that doDeed leaves -/
def Dd (B A : Nat → Nat → Nat) (k : Nat) : Prop := (∀ b, ¬ b = 12 → ¬ b = 13 → B b = A b) ∧ (∀ j, ¬ j = k → B 12 j = A 12 j) ∧ ∀ j, (j < 10 * k ∨ 10 * k + 10 ≤ j) → B 13 j = A 13 j
theorem Dd.rf (A : Nat → Nat → Nat) (k : Nat) : Dd A A k := ⟨fun _ _ _ => rfl, fun _ _ => rfl, fun _ _ => rfl⟩
theorem m_doDeed (g : Gx) (n : Nat) (w : Wd) {A : Nat → Nat → Nat} {len pl km : Nat} (hM : MO w A len pl km) {bk p i d : Nat} {K M S sh wo : Nat → Nat} (hRN : RN A bk p K M S) (hbk : bk ≤ 3) (hp8 : p ≤ 8) (hi : i < p) (hd5 : d ≤ 5) (hM10 : ∀ j, M j ≤ 10) (hsd : A 8 d = sh d) (hs1 : sh d ≤ 1) (hwd : A 7 d = wo d) : CT g yX7_doDeed cX7_doDeed 3 (some .boolean) rm_X7_doDeed n n w [.ref 59, .int (nI (8 * bk + i)), .int (nI d)] (Rq (.int (bz (dB M sh d i))) (fun w1 => ∃ B, MO w1 B len pl km ∧ fr w w1 59 83 ∧ Dd B A (8 * bk + i) ∧ RN B bk p K (dM M sh d i) (dS M S sh wo d i))) := by
  have hf : fr w w 59 83 := fr.rf
  have hMi := hM10 i
  refine CT.start [some (.ref 59), some (.int (nI (8 * bk + i))), some (.int (nI d))] (by decide +kernel) rfl (Nat.le_of_ble_eq_true rfl) (fun x C hnm => ?_)
  refine ww_aload0 C dX7_doDeed_0 ?_
  refine ww_getf C fl_X7_34 hM.1 rfl dX7_doDeed_1 ?_
  refine ww_iload2 C dX7_doDeed_4 ?_
  refine ww_ialdN C hM.a8 (by omega) dX7_doDeed_5 (kk := ?_)
  rw [hsd]
  refine ww_iconst C (v := nI 1) dX7_doDeed_6 (by decide) ?_
  refine ww_icmpneN C (by omega) (tgt := 36) dX7_doDeed_7 (by decide) (fun c7 => ?_) (fun c7 => ?_)
  · skip
    refine ww_aload0 C dX7_doDeed_36 ?_
    refine ww_getf C fl_X7_46 hM.1 rfl dX7_doDeed_37 ?_
    refine ww_iload1 C dX7_doDeed_40 ?_
    refine ww_ialdN C hM.a12 (by omega) dX7_doDeed_41 (kk := ?_)
    rw [(hRN i hi).2.1]
    refine ww_bipush C (v := nI 10) dX7_doDeed_42 (by decide) ?_
    refine ww_icmpneN C (by omega) (tgt := 49) dX7_doDeed_44 (by decide) (fun c44 => ?_) (fun c44 => ?_)
    · skip
      refine ww_aload0 C dX7_doDeed_49 ?_
      refine ww_getf C fl_X7_49 hM.1 rfl dX7_doDeed_50 ?_
      refine ww_bipush C (v := nI 10) dX7_doDeed_53 (by decide) ?_
      refine ww_iload1 C dX7_doDeed_55 ?_
      refine ww_imulN C dX7_doDeed_56 ?_
      refine ww_aload0 C dX7_doDeed_57 ?_
      refine ww_getf C fl_X7_46 hM.1 rfl dX7_doDeed_58 ?_
      refine ww_iload1 C dX7_doDeed_61 ?_
      refine ww_ialdN C hM.a12 (by omega) dX7_doDeed_62 (kk := ?_)
      rw [(hRN i hi).2.1]
      refine ww_iaddN C dX7_doDeed_63 ?_
      refine ww_aload0 C dX7_doDeed_64 ?_
      refine ww_getf C fl_X7_31 hM.1 rfl dX7_doDeed_65 ?_
      refine ww_iload2 C dX7_doDeed_68 ?_
      refine ww_ialdN C hM.a7 (by omega) dX7_doDeed_69 (kk := ?_)
      rw [hwd]
      refine ww_iastN C hM.a13 (by omega) dX7_doDeed_70 (kk := fun w1 hw1 => ?_)
      have hf : fr w w1 59 83 := hf.tr (fr.up hw1 (by omega) (by omega))
      obtain ⟨A1, hM, e1, o1⟩ := hM.st 13 (by decide) hw1
      refine ww_aload0 C dX7_doDeed_71 ?_
      refine ww_getf C fl_X7_46 hM.1 rfl dX7_doDeed_72 ?_
      refine ww_iload1 C dX7_doDeed_75 ?_
      refine ww_dup2 C dX7_doDeed_76 rfl rfl ?_
      refine ww_ialdN C hM.a12 (by omega) dX7_doDeed_77 (kk := ?_)
      rw [o1 12 (by decide), (hRN i hi).2.1]
      refine ww_iconst C (v := nI 1) dX7_doDeed_78 (by decide) ?_
      refine ww_iaddN C dX7_doDeed_79 ?_
      refine ww_iastN C hM.a12 (by omega) dX7_doDeed_80 (kk := fun w2 hw2 => ?_)
      have hf : fr w w2 59 83 := hf.tr (fr.up hw2 (by omega) (by omega))
      obtain ⟨A2, hM, e2, o2⟩ := hM.st 12 (by decide) hw2
      refine ww_iconst C (v := nI 1) dX7_doDeed_81 (by decide) ?_
      exact ww_rzq C dX7_doDeed_82 rfl ⟨Nat.le_of_ble_eq_true rfl, Nat.le_of_ble_eq_true rfl⟩ (by unfold dB; rw [if_pos hd5, if_pos (show sh d = 0 by omega), decide_eq_true (by omega)]; rfl) ⟨A2, hM, hf, ⟨fun b h1 h2 => (o2 b h1).trans (o1 b h2), fun j hj => (up_no e2 hj).trans (congrFun (o1 12 (by decide)) j), fun j hj => (congrFun (o2 13 (by decide)) j).trans (up_no e1 (by omega))⟩, by unfold dM dS; rw [if_pos hd5, if_pos hd5, if_pos (show sh d = 0 by omega), if_pos (show sh d = 0 by omega)]; exact hRN.deedG hi hp8 hM10 (by omega) ((o2 11 (by decide)).trans (o1 11 (by decide))) ((o2 13 (by decide)).trans e1) (by rw [e2, o1 12 (by decide)])⟩
    · skip
      refine ww_iconst C (v := nI 0) dX7_doDeed_47 (by decide) ?_
      exact ww_rzq C dX7_doDeed_48 rfl ⟨Nat.le_of_ble_eq_true rfl, Nat.le_of_ble_eq_true rfl⟩ (by unfold dB; rw [if_pos hd5, if_pos (show sh d = 0 by omega), decide_eq_false (by omega)]; rfl) ⟨A, hM, hf, Dd.rf A _, by unfold dM dS; rw [if_pos hd5, if_pos hd5, if_pos (show sh d = 0 by omega), if_pos (show sh d = 0 by omega)]; unfold gM gS; rw [if_neg (by omega), if_neg (by omega)]; exact hRN⟩
  · skip
    refine ww_aload0 C dX7_doDeed_10 ?_
    refine ww_getf C fl_X7_46 hM.1 rfl dX7_doDeed_11 ?_
    refine ww_iload1 C dX7_doDeed_14 ?_
    refine ww_dup2 C dX7_doDeed_15 rfl rfl ?_
    refine ww_ialdN C hM.a12 (by omega) dX7_doDeed_16 (kk := ?_)
    rw [(hRN i hi).2.1]
    have jn32 : ∀ (e : Nat), e = (if 1 < M i then 1 else 0) → WW g x 3 0 0 n w 32 [some (.ref 59), some (.int (nI (8 * bk + i))), some (.int (nI d))] [.int (nI e), .int (nI (M i)), .int (nI (8 * bk + i)), .ref 72] := by
      intro e he
      refine ww_isubN C (by rw [he]; split <;> omega) dX7_doDeed_32 ?_
      refine ww_iastN C hM.a12 (by omega) dX7_doDeed_33 (kk := fun w3 hw3 => ?_)
      have hf : fr w w3 59 83 := hf.tr (fr.up hw3 (by omega) (by omega))
      obtain ⟨A3, hM, e3, o3⟩ := hM.st 12 (by decide) hw3
      refine ww_iconst C (v := nI 1) dX7_doDeed_34 (by decide) ?_
      exact ww_rzq C dX7_doDeed_35 rfl ⟨Nat.le_of_ble_eq_true rfl, Nat.le_of_ble_eq_true rfl⟩ (by unfold dB; rw [if_pos hd5, if_neg (by omega)]; rfl) ⟨A3, hM, hf, ⟨fun b h1 _ => o3 b h1, fun j hj => up_no e3 hj, fun j _ => congrFun (o3 13 (by decide)) j⟩, by unfold dM dS; rw [if_pos hd5, if_pos hd5, if_neg (by omega), if_neg (by omega)]; exact hRN.deedL hi hp8 (o3 11 (by decide)) (o3 13 (by decide)) (by rw [e3, he, (hRN i hi).2.1])⟩
    refine ww_aload0 C dX7_doDeed_17 ?_
    refine ww_getf C fl_X7_46 hM.1 rfl dX7_doDeed_18 ?_
    refine ww_iload1 C dX7_doDeed_21 ?_
    refine ww_ialdN C hM.a12 (by omega) dX7_doDeed_22 (kk := ?_)
    rw [(hRN i hi).2.1]
    refine ww_iconst C (v := nI 1) dX7_doDeed_23 (by decide) ?_
    refine ww_icmpleN C (by omega) (tgt := 31) dX7_doDeed_24 (by decide) (fun c24 => ?_) (fun c24 => ?_)
    · skip
      refine ww_iconst C (v := nI 0) dX7_doDeed_31 (by decide) ?_
      exact jn32 0 (by rw [if_neg (by omega)])
    · skip
      refine ww_iconst C (v := nI 1) dX7_doDeed_27 (by decide) ?_
      refine ww_goto C (tgt := 32) dX7_doDeed_28 (by decide) ?_
      exact jn32 1 (by rw [if_pos c24])
theorem m_deed (g : Gx) (n : Nat) (w : Wd) {t : Nat → Nat} {len : Nat} {h : Hs} {a : Ms} {kn : Nat} {k1 k2 : Ms} (hMR : MR w t len h a kn k1 k2) (hB : Bd h a) (hBk : Bk kn k1 k2) (i d : Int32) : CT g yX7_deed cX7_deed 3 (some .int) rm_X7_deed n n w [.ref 59, .int i, .int d] (Rq (.int (V_deed h a i d)) (fun w1 => MR w1 t len h (A_deed h a i d) kn k1 k2 ∧ fr w w1 59 83)) := by
  obtain ⟨A, pl, hM, hRl⟩ := id hMR
  have hf : fr w w 59 83 := fr.rf
  obtain ⟨⟨hp1, hp8⟩, ⟨hb1, hb12, hv20, hmi9⟩, hK3, hM10, hS5, hM1, hX99, hR9, hwo5, hsh1, hbe9, hhd9, hhn12⟩ := id hB
  obtain ⟨hln, hkn2, htx, hRH, hRN, hRE, hk1r, hk2r⟩ := id hRl
  obtain ⟨rp, rX, rw_, rb, rv, rm_⟩ := id hRH
  refine CT.start [some (.ref 59), some (.int i), some (.int d)] (by decide +kernel) rfl (Nat.le_of_ble_eq_true rfl) (fun x C hnm => ?_)
  refine ww_aload0 C dX7_deed_0 ?_
  refine ww_iload1 C dX7_deed_1 ?_
  refine ww_cV1v C hM.1 rfl (m_isPerson g n w hM _ rp hp8) kV_X7_139 ⟨Nat.le_of_ble_eq_true rfl, Nat.le_of_ble_eq_true rfl⟩ ⟨rfl, rfl⟩ ⟨Nat.le_of_ble_eq_true rfl, Nat.le_of_ble_eq_true rfl⟩ (Nat.le_of_ble_eq_true rfl) dX7_deed_2 ?_
  refine ww_ifeqB C (tgt := 20) dX7_deed_5 (by decide) (fun c5 => ?_) (fun c5 => ?_)
  · skip
    refine ww_iconst C (v := -1) dX7_deed_20 (by decide) ?_
    exact ww_riq C dX7_deed_21 rfl ⟨Nat.le_of_ble_eq_true rfl, Nat.le_of_ble_eq_true rfl⟩ (by unfold V_deed; rw [if_neg (fun e => by rw [c5] at e; cases e.1)]) ⟨by unfold A_deed; rw [if_neg (fun e => by rw [c5] at e; cases e.1)]; exact hMR, fr.rf⟩
  · skip
    obtain ⟨j, hj, rfl⟩ := hb_of c5
    have hcj : (nI j).toNatClampNeg = j := cl_nI (by omega)
    refine ww_iload2 C dX7_deed_8 ?_
    refine ww_i2l C dX7_deed_9 ?_
    refine ww_lconst C (v := lN 0) dX7_deed_10 (by decide) ?_
    refine ww_ldc2 C (v := 5) kc_X7_143 dX7_deed_11 ?_
    refine ww_topl (show (5 : Int64) = lN 5 by decide) ?_
    refine ww_cS3v C (c_inR g n w _ _ _) kS_X7_88 ⟨Nat.le_of_ble_eq_true rfl, Nat.le_of_ble_eq_true rfl⟩ ⟨rfl, rfl⟩ ⟨Nat.le_of_ble_eq_true rfl, Nat.le_of_ble_eq_true rfl⟩ (Nat.le_of_ble_eq_true rfl) dX7_deed_14 ?_
    refine ww_topi (show bz _ = bz (wb (nI 0) (nI 5) d) by rw [in_W (by decide) (by decide)]) ?_
    refine ww_ifneB C (tgt := 22) dX7_deed_17 (by decide) (fun c17 => ?_) (fun c17 => ?_)
    · skip
      obtain ⟨q, hq0, hqm, rfl⟩ := wb_of (by decide) (by decide) c17
      have hcq : (nI q).toNatClampNeg = q := cl_nI (by omega)
      refine ww_aload0 C dX7_deed_22 ?_
      refine ww_iload1 C dX7_deed_23 ?_
      refine ww_iload2 C dX7_deed_24 ?_
      rw [show nI j = nI (8 * 0 + j) by rw [show 8 * 0 + j = j by omega]]
      refine ww_cV2vq C hM.1 rfl (m_doDeed g n w hM (bk := 0) (i := j) (d := q) (sh := h.2.2.2.2.2.2.2.1) (wo := h.2.2.2.2.2.2.1) hRN (by omega) hp8 hj hqm hM10 (rw_ q (by omega)).2.1 (hsh1 q) (rw_ q (by omega)).1) kV_X7_150 ⟨Nat.le_of_ble_eq_true rfl, Nat.le_of_ble_eq_true rfl⟩ ⟨rfl, rfl⟩ ⟨Nat.le_of_ble_eq_true rfl, Nat.le_of_ble_eq_true rfl⟩ (Nat.le_of_ble_eq_true rfl) dX7_deed_25 (fun w1 hw1 => ?_)
      obtain ⟨B, hM, hf1, hDd, hRN2⟩ := hw1
      have hf := hf.tr hf1
      rw [show 8 * 0 + j = j by omega] at hDd
      rw [show nI (8 * 0 + j) = nI j by rw [show 8 * 0 + j = j by omega]]
      refine ww_ifeqB C (tgt := 40) dX7_deed_28 (by decide) (fun c28 => ?_) (fun c28 => ?_)
      · skip
        refine ww_bipush C (v := -3) dX7_deed_40 (by decide) ?_
        exact ww_riq C dX7_deed_42 rfl ⟨Nat.le_of_ble_eq_true rfl, Nat.le_of_ble_eq_true rfl⟩ (by unfold V_deed; rw [if_pos ⟨c5, c17⟩, hcj, hcq, if_neg (by rw [c28]; decide)]) ⟨by unfold A_deed; rw [if_pos ⟨c5, c17⟩, hcj, hcq]; exact ⟨B, pl, hM, hRl.now hB hBk (fun b hb => hDd.1 b (by omega) (by omega)) (fun j2 _ => congrFun (hDd.1 11 (by decide) (by decide)) j2) (fun j2 h2 => hDd.2.1 _ (by omega)) (fun j2 h2 => hDd.2.2 _ (by omega)) (fun j2 _ => congrFun (hDd.1 14 (by decide) (by decide)) j2) (fun j2 _ => congrFun (hDd.1 15 (by decide) (by decide)) j2) hRN2 (by unfold RE; rw [hDd.1 14 (by decide) (by decide), hDd.1 15 (by decide) (by decide)]; exact hRE)⟩, hf⟩
      · skip
        refine ww_aload0 C dX7_deed_31 ?_
        refine ww_getf C fl_X7_46 hM.1 rfl dX7_deed_32 ?_
        refine ww_iload1 C dX7_deed_35 ?_
        refine ww_ialdN C hM.a12 (by omega) dX7_deed_36 (kk := ?_)
        refine ww_goto C (tgt := 42) dX7_deed_37 (by decide) ?_
        exact ww_riq C dX7_deed_42 rfl ⟨Nat.le_of_ble_eq_true rfl, Nat.le_of_ble_eq_true rfl⟩ (by unfold V_deed; rw [if_pos ⟨c5, c17⟩, hcj, hcq, if_pos c28, show B 12 j = dM a.2.1 h.2.2.2.2.2.2.2.1 q j j by (have := (hRN2 j hj).2.1; rw [show 8 * 0 + j = j by omega] at this; exact this)]) ⟨by unfold A_deed; rw [if_pos ⟨c5, c17⟩, hcj, hcq]; exact ⟨B, pl, hM, hRl.now hB hBk (fun b hb => hDd.1 b (by omega) (by omega)) (fun j2 _ => congrFun (hDd.1 11 (by decide) (by decide)) j2) (fun j2 h2 => hDd.2.1 _ (by omega)) (fun j2 h2 => hDd.2.2 _ (by omega)) (fun j2 _ => congrFun (hDd.1 14 (by decide) (by decide)) j2) (fun j2 _ => congrFun (hDd.1 15 (by decide) (by decide)) j2) hRN2 (by unfold RE; rw [hDd.1 14 (by decide) (by decide), hDd.1 15 (by decide) (by decide)]; exact hRE)⟩, hf⟩
    · skip
      refine ww_iconst C (v := -1) dX7_deed_20 (by decide) ?_
      exact ww_riq C dX7_deed_21 rfl ⟨Nat.le_of_ble_eq_true rfl, Nat.le_of_ble_eq_true rfl⟩ (by unfold V_deed; rw [if_neg (fun e => by rw [c17] at e; cases e.2)]) ⟨by unfold A_deed; rw [if_neg (fun e => by rw [c17] at e; cases e.2)]; exact hMR, fr.rf⟩
theorem m_hear (g : Gx) (n : Nat) (w : Wd) {t : Nat → Nat} {len : Nat} {h : Hs} {a : Ms} {kn : Nat} {k1 k2 : Ms} (hMR : MR w t len h a kn k1 k2) (hB : Bd h a) (hBk : Bk kn k1 k2) (s : Int32) : CT g yX7_hear cX7_hear 2 (some .int) rm_X7_hear n n w [.ref 59, .int s] (Rq (.int (V_hear a.2.2.2.2 s)) (fun w1 => MR w1 t len h (A_hear a s) kn k1 k2 ∧ fr w w1 59 83)) := by
  obtain ⟨A, pl, hM, hRl⟩ := id hMR
  have hf : fr w w 59 83 := fr.rf
  obtain ⟨⟨hp1, hp8⟩, ⟨hb1, hb12, hv20, hmi9⟩, hK3, hM10, hS5, hM1, hX99, hR9, hwo5, hsh1, hbe9, hhd9, hhn12⟩ := id hB
  obtain ⟨hln, hkn2, htx, hRH, hRN, hRE, hk1r, hk2r⟩ := id hRl
  obtain ⟨rp, rX, rw_, rb, rv, rm_⟩ := id hRH
  refine CT.start [some (.ref 59), some (.int s)] (by decide +kernel) rfl (Nat.le_of_ble_eq_true rfl) (fun x C hnm => ?_)
  refine ww_iload1 C dX7_hear_0 ?_
  refine ww_i2l C dX7_hear_1 ?_
  refine ww_lconst C (v := lN 0) dX7_hear_2 (by decide) ?_
  refine ww_ldc2 C (v := 5) kc_X7_143 dX7_hear_3 ?_
  refine ww_topl (show (5 : Int64) = lN 5 by decide) ?_
  refine ww_cS3v C (c_inR g n w _ _ _) kS_X7_88 ⟨Nat.le_of_ble_eq_true rfl, Nat.le_of_ble_eq_true rfl⟩ ⟨rfl, rfl⟩ ⟨Nat.le_of_ble_eq_true rfl, Nat.le_of_ble_eq_true rfl⟩ (Nat.le_of_ble_eq_true rfl) dX7_hear_6 ?_
  refine ww_topi (show bz _ = bz (wb (nI 0) (nI 5) s) by rw [in_W (by decide) (by decide)]) ?_
  refine ww_ifneB C (tgt := 20) dX7_hear_9 (by decide) (fun c9 => ?_) (fun c9 => ?_)
  · skip
    obtain ⟨q, hq0, hqm, rfl⟩ := wb_of (by decide) (by decide) c9
    have hcq : (nI q).toNatClampNeg = q := cl_nI (by omega)
    refine ww_aload0 C dX7_hear_20 ?_
    refine ww_getf C fl_X7_52 hM.1 rfl dX7_hear_21 ?_
    refine ww_iconst C (v := nI 0) dX7_hear_24 (by decide) ?_
    refine ww_ialdN C hM.a14 (by decide) dX7_hear_25 (kk := ?_)
    rw [hRE.1]
    refine ww_bipush C (v := nI 12) dX7_hear_26 (by decide) ?_
    refine ww_icmpneN C (by omega) (tgt := 34) dX7_hear_28 (by decide) (fun c28 => ?_) (fun c28 => ?_)
    · skip
      refine ww_aload0 C dX7_hear_34 ?_
      refine ww_getf C fl_X7_55 hM.1 rfl dX7_hear_35 ?_
      refine ww_aload0 C dX7_hear_38 ?_
      refine ww_getf C fl_X7_52 hM.1 rfl dX7_hear_39 ?_
      refine ww_iconst C (v := nI 0) dX7_hear_42 (by decide) ?_
      refine ww_ialdN C hM.a14 (by decide) dX7_hear_43 (kk := ?_)
      rw [hRE.1]
      refine ww_iload1 C dX7_hear_44 ?_
      refine ww_iastN C hM.a15 (by omega) dX7_hear_45 (kk := fun w1 hw1 => ?_)
      have hf : fr w w1 59 83 := hf.tr (fr.up hw1 (by omega) (by omega))
      obtain ⟨A1, hM, e1, o1⟩ := hM.st 15 (by decide) hw1
      refine ww_aload0 C dX7_hear_46 ?_
      refine ww_getf C fl_X7_52 hM.1 rfl dX7_hear_47 ?_
      refine ww_iconst C (v := nI 0) dX7_hear_50 (by decide) ?_
      refine ww_dup2 C dX7_hear_51 rfl rfl ?_
      refine ww_ialdN C hM.a14 (by decide) dX7_hear_52 (kk := ?_)
      rw [o1 14 (by decide), hRE.1]
      refine ww_iconst C (v := nI 1) dX7_hear_53 (by decide) ?_
      refine ww_iaddN C dX7_hear_54 ?_
      refine ww_iastN C hM.a14 (by decide) dX7_hear_55 (kk := fun w2 hw2 => ?_)
      have hf : fr w w2 59 83 := hf.tr (fr.up hw2 (by omega) (by omega))
      obtain ⟨A2, hM, e2, o2⟩ := hM.st 14 (by decide) hw2
      refine ww_aload0 C dX7_hear_56 ?_
      refine ww_getf C fl_X7_52 hM.1 rfl dX7_hear_57 ?_
      refine ww_iconst C (v := nI 0) dX7_hear_60 (by decide) ?_
      refine ww_ialdN C hM.a14 (by decide) dX7_hear_61 (kk := ?_)
      exact ww_riq C dX7_hear_62 rfl ⟨Nat.le_of_ble_eq_true rfl, Nat.le_of_ble_eq_true rfl⟩ (by unfold V_hear; rw [if_pos (Or.inl c9), if_pos (by omega)]; rw [show A2 14 0 = a.2.2.2.2 + 1 from up_at e2 rfl]) ⟨by unfold A_hear; rw [if_pos ⟨Or.inl c9, by omega⟩, hcq]; exact ⟨A2, pl, hM, hRl.now hB hBk (fun b hb => (o2 b (by omega)).trans (o1 b (by omega))) (fun j2 _ => (congrFun (o2 11 (by decide)) j2).trans (congrFun (o1 11 (by decide)) j2)) (fun j2 _ => (congrFun (o2 12 (by decide)) j2).trans (congrFun (o1 12 (by decide)) j2)) (fun j2 _ => (congrFun (o2 13 (by decide)) j2).trans (congrFun (o1 13 (by decide)) j2)) (fun j2 h2 => (up_no e2 (by omega)).trans (congrFun (o1 14 (by decide)) j2)) (fun j2 h2 => (congrFun (o2 15 (by decide)) j2).trans (up_no e1 (by omega))) (by unfold RN; rw [o2 11 (by decide), o2 12 (by decide), o2 13 (by decide), o1 11 (by decide), o1 12 (by decide), o1 13 (by decide)]; exact hRN) ⟨up_at e2 rfl, fun j2 h2 => by rw [o2 15 (by decide), e1]; show va_up (A 15) a.2.2.2.2 q (12 * 0 + j2) = va_up a.2.2.2.1 a.2.2.2.2 q j2; by_cases c : j2 = a.2.2.2.2; (rw [c, show 12 * 0 + a.2.2.2.2 = a.2.2.2.2 by omega, va_upd_self, va_upd_self]); (have h2 : j2 < a.2.2.2.2 + 1 := h2; rw [va_upd_ne _ _ c, va_upd_ne _ _ (by omega)]; exact hRE.2 j2 (by omega))⟩⟩, hf⟩
    · skip
      refine ww_bipush C (v := -3) dX7_hear_31 (by decide) ?_
      exact ww_riq C dX7_hear_33 rfl ⟨Nat.le_of_ble_eq_true rfl, Nat.le_of_ble_eq_true rfl⟩ (by unfold V_hear; rw [if_pos (Or.inl c9), if_neg (by omega)]) ⟨by unfold A_hear; rw [if_neg (fun e => by omega)]; exact hMR, fr.rf⟩
  · skip
    refine ww_iload1 C dX7_hear_12 ?_
    refine ww_bipush C (v := nI 9) dX7_hear_13 (by decide) ?_
    refine ww_icmpeq C (tgt := 20) dX7_hear_15 (by decide) (fun c15 => ?_) (fun c15 => ?_)
    · skip
      obtain ⟨q, hqe⟩ : ∃ q, q = 9 := ⟨9, rfl⟩
      rw [show nI 9 = nI q by rw [hqe]] at c15
      subst c15
      have hcq : (nI q).toNatClampNeg = q := cl_nI (by omega)
      have hqe : nI q = nI 9 := by rw [hqe]
      refine ww_aload0 C dX7_hear_20 ?_
      refine ww_getf C fl_X7_52 hM.1 rfl dX7_hear_21 ?_
      refine ww_iconst C (v := nI 0) dX7_hear_24 (by decide) ?_
      refine ww_ialdN C hM.a14 (by decide) dX7_hear_25 (kk := ?_)
      rw [hRE.1]
      refine ww_bipush C (v := nI 12) dX7_hear_26 (by decide) ?_
      refine ww_icmpneN C (by omega) (tgt := 34) dX7_hear_28 (by decide) (fun c28 => ?_) (fun c28 => ?_)
      · skip
        refine ww_aload0 C dX7_hear_34 ?_
        refine ww_getf C fl_X7_55 hM.1 rfl dX7_hear_35 ?_
        refine ww_aload0 C dX7_hear_38 ?_
        refine ww_getf C fl_X7_52 hM.1 rfl dX7_hear_39 ?_
        refine ww_iconst C (v := nI 0) dX7_hear_42 (by decide) ?_
        refine ww_ialdN C hM.a14 (by decide) dX7_hear_43 (kk := ?_)
        rw [hRE.1]
        refine ww_iload1 C dX7_hear_44 ?_
        refine ww_iastN C hM.a15 (by omega) dX7_hear_45 (kk := fun w3 hw3 => ?_)
        have hf : fr w w3 59 83 := hf.tr (fr.up hw3 (by omega) (by omega))
        obtain ⟨A3, hM, e3, o3⟩ := hM.st 15 (by decide) hw3
        refine ww_aload0 C dX7_hear_46 ?_
        refine ww_getf C fl_X7_52 hM.1 rfl dX7_hear_47 ?_
        refine ww_iconst C (v := nI 0) dX7_hear_50 (by decide) ?_
        refine ww_dup2 C dX7_hear_51 rfl rfl ?_
        refine ww_ialdN C hM.a14 (by decide) dX7_hear_52 (kk := ?_)
        rw [o3 14 (by decide), hRE.1]
        refine ww_iconst C (v := nI 1) dX7_hear_53 (by decide) ?_
        refine ww_iaddN C dX7_hear_54 ?_
        refine ww_iastN C hM.a14 (by decide) dX7_hear_55 (kk := fun w4 hw4 => ?_)
        have hf : fr w w4 59 83 := hf.tr (fr.up hw4 (by omega) (by omega))
        obtain ⟨A4, hM, e4, o4⟩ := hM.st 14 (by decide) hw4
        refine ww_aload0 C dX7_hear_56 ?_
        refine ww_getf C fl_X7_52 hM.1 rfl dX7_hear_57 ?_
        refine ww_iconst C (v := nI 0) dX7_hear_60 (by decide) ?_
        refine ww_ialdN C hM.a14 (by decide) dX7_hear_61 (kk := ?_)
        exact ww_riq C dX7_hear_62 rfl ⟨Nat.le_of_ble_eq_true rfl, Nat.le_of_ble_eq_true rfl⟩ (by unfold V_hear; rw [if_pos (Or.inr hqe), if_pos (by omega)]; rw [show A4 14 0 = a.2.2.2.2 + 1 from up_at e4 rfl]) ⟨by unfold A_hear; rw [if_pos ⟨Or.inr hqe, by omega⟩, hcq]; exact ⟨A4, pl, hM, hRl.now hB hBk (fun b hb => (o4 b (by omega)).trans (o3 b (by omega))) (fun j2 _ => (congrFun (o4 11 (by decide)) j2).trans (congrFun (o3 11 (by decide)) j2)) (fun j2 _ => (congrFun (o4 12 (by decide)) j2).trans (congrFun (o3 12 (by decide)) j2)) (fun j2 _ => (congrFun (o4 13 (by decide)) j2).trans (congrFun (o3 13 (by decide)) j2)) (fun j2 h2 => (up_no e4 (by omega)).trans (congrFun (o3 14 (by decide)) j2)) (fun j2 h2 => (congrFun (o4 15 (by decide)) j2).trans (up_no e3 (by omega))) (by unfold RN; rw [o4 11 (by decide), o4 12 (by decide), o4 13 (by decide), o3 11 (by decide), o3 12 (by decide), o3 13 (by decide)]; exact hRN) ⟨up_at e4 rfl, fun j2 h2 => by rw [o4 15 (by decide), e3]; show va_up (A 15) a.2.2.2.2 q (12 * 0 + j2) = va_up a.2.2.2.1 a.2.2.2.2 q j2; by_cases c : j2 = a.2.2.2.2; (rw [c, show 12 * 0 + a.2.2.2.2 = a.2.2.2.2 by omega, va_upd_self, va_upd_self]); (have h2 : j2 < a.2.2.2.2 + 1 := h2; rw [va_upd_ne _ _ c, va_upd_ne _ _ (by omega)]; exact hRE.2 j2 (by omega))⟩⟩, hf⟩
      · skip
        refine ww_bipush C (v := -3) dX7_hear_31 (by decide) ?_
        exact ww_riq C dX7_hear_33 rfl ⟨Nat.le_of_ble_eq_true rfl, Nat.le_of_ble_eq_true rfl⟩ (by unfold V_hear; rw [if_pos (Or.inr hqe), if_neg (by omega)]) ⟨by unfold A_hear; rw [if_neg (fun e => by omega)]; exact hMR, fr.rf⟩
    · skip
      refine ww_iconst C (v := -1) dX7_hear_18 (by decide) ?_
      exact ww_riq C dX7_hear_19 rfl ⟨Nat.le_of_ble_eq_true rfl, Nat.le_of_ble_eq_true rfl⟩ (by unfold V_hear; rw [if_neg (fun e => e.elim (fun e => by rw [c9] at e; cases e) c15)]) ⟨by unfold A_hear; rw [if_neg (fun e => e.1.elim (fun e => by rw [c9] at e; cases e) c15)]; exact hMR, fr.rf⟩
theorem m_forget (g : Gx) (n : Nat) (w : Wd) {t : Nat → Nat} {len : Nat} {h : Hs} {a : Ms} {kn : Nat} {k1 k2 : Ms} (hMR : MR w t len h a kn k1 k2) (hB : Bd h a) (hBk : Bk kn k1 k2) : CT g yX7_forget cX7_forget 2 (some .int) rm_X7_forget n n w [.ref 59] (Rq (.int (nI a.2.2.2.2)) (fun w1 => MR w1 t len h (a.1, a.2.1, a.2.2.1, a.2.2.2.1, 0) kn k1 k2 ∧ fr w w1 59 83)) := by
  obtain ⟨A, pl, hM, hRl⟩ := id hMR
  have hf : fr w w 59 83 := fr.rf
  obtain ⟨⟨hp1, hp8⟩, ⟨hb1, hb12, hv20, hmi9⟩, hK3, hM10, hS5, hM1, hX99, hR9, hwo5, hsh1, hbe9, hhd9, hhn12⟩ := id hB
  obtain ⟨hln, hkn2, htx, hRH, hRN, hRE, hk1r, hk2r⟩ := id hRl
  obtain ⟨rp, rX, rw_, rb, rv, rm_⟩ := id hRH
  refine CT.start [some (.ref 59), none] (by decide +kernel) rfl (Nat.le_of_ble_eq_true rfl) (fun x C hnm => ?_)
  refine ww_aload0 C dX7_forget_0 ?_
  refine ww_getf C fl_X7_52 hM.1 rfl dX7_forget_1 ?_
  refine ww_iconst C (v := nI 0) dX7_forget_4 (by decide) ?_
  refine ww_ialdN C hM.a14 (by decide) dX7_forget_5 (kk := ?_)
  rw [hRE.1]
  refine ww_istore1 C dX7_forget_6 (by decide) rfl ?_
  refine ww_aload0 C dX7_forget_7 ?_
  refine ww_getf C fl_X7_52 hM.1 rfl dX7_forget_8 ?_
  refine ww_iconst C (v := nI 0) dX7_forget_11 (by decide) ?_
  refine ww_iconst C (v := nI 0) dX7_forget_12 (by decide) ?_
  refine ww_iastN C hM.a14 (by decide) dX7_forget_13 (kk := fun w1 hw1 => ?_)
  have hf : fr w w1 59 83 := hf.tr (fr.up hw1 (by omega) (by omega))
  obtain ⟨A1, hM, e1, o1⟩ := hM.st 14 (by decide) hw1
  refine ww_iload1 C dX7_forget_14 ?_
  exact ww_riq C dX7_forget_15 rfl ⟨Nat.le_of_ble_eq_true rfl, Nat.le_of_ble_eq_true rfl⟩ rfl ⟨⟨A1, pl, hM, hRl.now hB hBk (fun b hb => o1 b (by omega)) (fun j2 _ => congrFun (o1 11 (by decide)) j2) (fun j2 _ => congrFun (o1 12 (by decide)) j2) (fun j2 _ => congrFun (o1 13 (by decide)) j2) (fun j2 h2 => up_no e1 (by omega)) (fun j2 _ => congrFun (o1 15 (by decide)) j2) (by unfold RN; rw [o1 11 (by decide), o1 12 (by decide), o1 13 (by decide)]; exact hRN) ⟨up_at e1 rfl, fun j2 h2 => absurd h2 (Nat.not_lt_zero _)⟩⟩, hf⟩
theorem m_count (g : Gx) (n : Nat) (w : Wd) {t : Nat → Nat} {len : Nat} {h : Hs} {a : Ms} {kn : Nat} {k1 k2 : Ms} (hMR : MR w t len h a kn k1 k2) (hB : Bd h a) (hBk : Bk kn k1 k2) (what : Int32) : CT g yX7_count cX7_count 2 (some .int) rm_X7_count n n w [.ref 59, .int what] (Rq (.int (V_count len h a kn what)) (fun w1 => MR w1 t len h a kn k1 k2 ∧ fr w w1 59 83)) := by
  obtain ⟨A, pl, hM, hRl⟩ := id hMR
  have hf : fr w w 59 83 := fr.rf
  obtain ⟨⟨hp1, hp8⟩, ⟨hb1, hb12, hv20, hmi9⟩, hK3, hM10, hS5, hM1, hX99, hR9, hwo5, hsh1, hbe9, hhd9, hhn12⟩ := id hB
  obtain ⟨hln, hkn2, htx, hRH, hRN, hRE, hk1r, hk2r⟩ := id hRl
  obtain ⟨rp, rX, rw_, rb, rv, rm_⟩ := id hRH
  refine CT.start [some (.ref 59), some (.int what)] (by decide +kernel) rfl (Nat.le_of_ble_eq_true rfl) (fun x C hnm => ?_)
  refine ww_iload1 C dX7_count_0 ?_
  by_cases e0 : what = nI 0
  · subst e0
    refine ww_tabIn C (tgt := 44) dX7_count_1 (by decide) (by decide) rfl (by decide) ?_
    refine ww_aload0 C dX7_count_44 ?_
    refine ww_getf C fl_X7_13 hM.1 rfl dX7_count_45 ?_
    refine ww_iconst C (v := nI 0) dX7_count_48 (by decide) ?_
    refine ww_ialdN C hM.a1 (by decide) dX7_count_49 (kk := ?_)
    exact ww_riq C dX7_count_50 rfl ⟨Nat.le_of_ble_eq_true rfl, Nat.le_of_ble_eq_true rfl⟩ (by unfold V_count; rw [if_pos rfl, rp]) ⟨hMR, fr.rf⟩
  · skip
    by_cases e1 : what = nI 1
    · subst e1
      refine ww_tabIn C (tgt := 51) dX7_count_1 (by decide) (by decide) rfl (by decide) ?_
      refine ww_aload0 C dX7_count_51 ?_
      refine ww_getf C fl_X7_52 hM.1 rfl dX7_count_52 ?_
      refine ww_iconst C (v := nI 0) dX7_count_55 (by decide) ?_
      refine ww_ialdN C hM.a14 (by decide) dX7_count_56 (kk := ?_)
      exact ww_riq C dX7_count_57 rfl ⟨Nat.le_of_ble_eq_true rfl, Nat.le_of_ble_eq_true rfl⟩ (by unfold V_count; rw [if_neg (by decide), if_pos rfl, hRE.1]) ⟨hMR, fr.rf⟩
    · skip
      by_cases e2 : what = nI 2
      · subst e2
        refine ww_tabIn C (tgt := 58) dX7_count_1 (by decide) (by decide) rfl (by decide) ?_
        refine ww_aload0 C dX7_count_58 ?_
        refine ww_getf C fl_X7_92 hM.1 rfl dX7_count_59 ?_
        exact ww_riq C dX7_count_62 rfl ⟨Nat.le_of_ble_eq_true rfl, Nat.le_of_ble_eq_true rfl⟩ (by unfold V_count; rw [if_neg (by decide), if_neg (by decide), if_pos rfl]) ⟨hMR, fr.rf⟩
      · skip
        by_cases e3 : what = nI 3
        · subst e3
          refine ww_tabIn C (tgt := 63) dX7_count_1 (by decide) (by decide) rfl (by decide) ?_
          refine ww_aload0 C dX7_count_63 ?_
          refine ww_getf C fl_X7_132 hM.1 rfl dX7_count_64 ?_
          exact ww_riq C dX7_count_67 rfl ⟨Nat.le_of_ble_eq_true rfl, Nat.le_of_ble_eq_true rfl⟩ (by unfold V_count; rw [if_neg (by decide), if_neg (by decide), if_neg (by decide), if_pos rfl]) ⟨hMR, fr.rf⟩
        · skip
          by_cases e4 : what = nI 4
          · subst e4
            refine ww_tabIn C (tgt := 68) dX7_count_1 (by decide) (by decide) rfl (by decide) ?_
            refine ww_aload0 C dX7_count_68 ?_
            refine ww_getf C fl_X7_40 hM.1 rfl dX7_count_69 ?_
            refine ww_iconst C (v := nI 0) dX7_count_72 (by decide) ?_
            refine ww_ialdN C hM.a10 (by decide) dX7_count_73 (kk := ?_)
            exact ww_riq C dX7_count_74 rfl ⟨Nat.le_of_ble_eq_true rfl, Nat.le_of_ble_eq_true rfl⟩ (by unfold V_count; rw [if_neg (by decide), if_neg (by decide), if_neg (by decide), if_neg (by decide), if_pos rfl, rb]) ⟨hMR, fr.rf⟩
          · skip
            by_cases e5 : what = nI 5
            · subst e5
              refine ww_tabIn C (tgt := 75) dX7_count_1 (by decide) (by decide) rfl (by decide) ?_
              refine ww_aload0 C dX7_count_75 ?_
              refine ww_getf C fl_X7_40 hM.1 rfl dX7_count_76 ?_
              refine ww_iconst C (v := nI 1) dX7_count_79 (by decide) ?_
              refine ww_ialdN C hM.a10 (by decide) dX7_count_80 (kk := ?_)
              exact ww_riq C dX7_count_81 rfl ⟨Nat.le_of_ble_eq_true rfl, Nat.le_of_ble_eq_true rfl⟩ (by unfold V_count; rw [if_neg (by decide), if_neg (by decide), if_neg (by decide), if_neg (by decide), if_neg (by decide), if_pos rfl, rv]) ⟨hMR, fr.rf⟩
            · skip
              by_cases e6 : what = nI 6
              · subst e6
                refine ww_tabIn C (tgt := 82) dX7_count_1 (by decide) (by decide) rfl (by decide) ?_
                refine ww_aload0 C dX7_count_82 ?_
                refine ww_getf C fl_X7_40 hM.1 rfl dX7_count_83 ?_
                refine ww_iconst C (v := nI 2) dX7_count_86 (by decide) ?_
                refine ww_ialdN C hM.a10 (by decide) dX7_count_87 (kk := ?_)
                exact ww_riq C dX7_count_88 rfl ⟨Nat.le_of_ble_eq_true rfl, Nat.le_of_ble_eq_true rfl⟩ (by unfold V_count; rw [if_neg (by decide), if_neg (by decide), if_neg (by decide), if_neg (by decide), if_neg (by decide), if_neg (by decide), if_pos rfl, rm_]) ⟨hMR, fr.rf⟩
              · skip
                refine ww_tabOut C (tgt := 89) dX7_count_1 (sw_out (m := 6) (by decide) (fun k hk => by rcases (show k = 0 ∨ k = 1 ∨ k = 2 ∨ k = 3 ∨ k = 4 ∨ k = 5 ∨ k = 6 by omega) with rfl | rfl | rfl | rfl | rfl | rfl | rfl <;> assumption)) (by decide) ?_
                refine ww_iconst C (v := -1) dX7_count_89 (by decide) ?_
                exact ww_riq C dX7_count_90 rfl ⟨Nat.le_of_ble_eq_true rfl, Nat.le_of_ble_eq_true rfl⟩ (by unfold V_count; rw [if_neg e0, if_neg e1, if_neg e2, if_neg e3, if_neg e4, if_neg e5, if_neg e6]) ⟨hMR, fr.rf⟩
