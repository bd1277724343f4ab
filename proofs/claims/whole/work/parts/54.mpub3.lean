theorem byte_m (v : Int64) {i : Nat} (hi : i < 8) : ((v >>> ((nI (8 * i)).toInt64 &&& 63)) &&& lN 255).toInt32 = nI (byN v i) := by
  have e1 : ∀ i, i < 8 → ((((nI (8 * i)).toInt64 &&& 63).toBitVec).smod 64).toNat = 8 * i := by decide
  have e2 : (v >>> ((nI (8 * i)).toInt64 &&& 63)).toBitVec = v.toBitVec.sshiftRight (8 * i) := by
    rw [Int64.toBitVec_shiftRight, BitVec.sshiftRight_eq', e1 i hi]
  have e3 : ((v >>> ((nI (8 * i)).toInt64 &&& 63)) &&& lN 255).toBitVec.toNat = byN v i := by
    rw [Int64.toBitVec_and, e2, BitVec.toNat_and]
    show (v.toBitVec.sshiftRight (8 * i)).toNat &&& 255 = byN v i
    unfold byN
    apply Nat.eq_of_testBit_eq
    intro k
    rw [Nat.testBit_and, show (255 : Nat) = 2 ^ 8 - 1 from rfl, Nat.testBit_two_pow_sub_one, show (256 : Nat) = 2 ^ 8 from rfl, Nat.testBit_mod_two_pow, Nat.testBit_div_two_pow]
    by_cases hk : k < 8
    · have := BitVec.getLsbD_sshiftRight v.toBitVec (8 * i) k
      rw [BitVec.getLsbD] at this
      rw [this, if_pos (by omega), BitVec.getLsbD, Nat.add_comm (8 * i) k]
      simp [hk]
      intro _; omega
    · simp [hk]
  apply Int32.toBitVec_inj.1
  apply BitVec.eq_of_toNat_eq
  show (((v >>> ((nI (8 * i)).toInt64 &&& 63)) &&& lN 255).toBitVec.signExtend 32).toNat = (BitVec.ofNat 32 (byN v i)).toNat
  rw [BitVec.signExtend_eq_setWidth_of_le _ (by decide), BitVec.toNat_setWidth, e3, BitVec.toNat_ofNat]
/-- only the text is changed -/
theorem Rl.txt {B A : Nat → Nat → Nat} {t t2 : Nat → Nat} {len len2 : Nat} {h : Hs} {a : Ms} {kn : Nat} {k1 k2 : Ms} (e : ∀ b, ¬ b = 0 → B b = A b) (hl : len2 ≤ 400) (ht : ∀ j, j < len2 → B 0 j = t2 j) (q : Rl A t len h a kn k1 k2) : Rl B t2 len2 h a kn k1 k2 := by
  obtain ⟨q0, q1, q2, q3, q4, q5, q6, q7⟩ := q
  unfold RH RN RE at *
  refine ⟨hl, q1, ht, ?_⟩
  unfold RH RN RE
  rw [e 1 (by decide), e 5 (by decide), e 6 (by decide), e 7 (by decide), e 8 (by decide), e 9 (by decide), e 10 (by decide), e 11 (by decide), e 12 (by decide), e 13 (by decide), e 14 (by decide), e 15 (by decide)]
  exact ⟨q3, q4, q5, q6, q7⟩
theorem m_write (g : Gx) (n : Nat) (w : Wd) {t : Nat → Nat} {len : Nat} {h : Hs} {a : Ms} {kn : Nat} {k1 k2 : Ms} (hMR : MR w t len h a kn k1 k2) (hB : Bd h a) (hBk : Bk kn k1 k2) (i : Int32) (v : Int64) : CT g yX7_write cX7_write 5 (some .int) rm_X7_write n n w [.ref 59, .int i, .long v] (Rq (.int (V_write len i)) (fun w1 => MR w1 (T_write t len i v) (L_write len i) h a kn k1 k2 ∧ fr w w1 59 83)) := by
  obtain ⟨A, pl, hM, hRl⟩ := id hMR
  have hf : fr w w 59 83 := fr.rf
  obtain ⟨⟨hp1, hp8⟩, ⟨hb1, hb12, hv20, hmi9⟩, hK3, hM10, hS5, hM1, hX99, hR9, hwo5, hsh1, hbe9, hhd9, hhn12⟩ := id hB
  obtain ⟨hln, hkn2, htx, hRH, hRN, hRE, hk1r, hk2r⟩ := id hRl
  obtain ⟨rp, rX, rw_, rb, rv, rm_⟩ := id hRH
  refine CT.start [some (.ref 59), some (.int i), some (.long v), none, none] (by decide +kernel) rfl (Nat.le_of_ble_eq_true rfl) (fun x C hnm => ?_)
  refine ww_iload1 C dX7_write_0 ?_
  refine ww_i2l C dX7_write_1 ?_
  refine ww_lconst C (v := lN 1) dX7_write_2 (by decide) ?_
  refine ww_ldc2 C (v := 8) kc_X7_86 dX7_write_3 ?_
  refine ww_topl (show (8 : Int64) = lN 8 by decide) ?_
  refine ww_cS3v C (c_inR g n w _ _ _) kS_X7_88 ⟨Nat.le_of_ble_eq_true rfl, Nat.le_of_ble_eq_true rfl⟩ ⟨rfl, rfl⟩ ⟨Nat.le_of_ble_eq_true rfl, Nat.le_of_ble_eq_true rfl⟩ (Nat.le_of_ble_eq_true rfl) dX7_write_6 ?_
  refine ww_topi (show bz _ = bz (wb (nI 1) (nI 8) i) by rw [in_W (by decide) (by decide)]) ?_
  refine ww_ifneB C (tgt := 14) dX7_write_9 (by decide) (fun c9 => ?_) (fun c9 => ?_)
  · skip
    obtain ⟨q, hq1, hq8, rfl⟩ := wb_of (by decide) (by decide) c9
    have hcq : (nI q).toNatClampNeg = q := cl_nI (by omega)
    refine ww_aload0 C dX7_write_14 ?_
    refine ww_getf C fl_X7_92 hM.1 rfl dX7_write_15 ?_
    refine ww_iload1 C dX7_write_18 ?_
    refine ww_iaddN C dX7_write_19 ?_
    refine ww_sipush C (v := nI 400) dX7_write_20 (by decide) ?_
    refine ww_icmpleN C (by omega) (tgt := 29) dX7_write_23 (by decide) (fun c23 => ?_) (fun c23 => ?_)
    · skip
      refine ww_iload1 C dX7_write_29 ?_
      refine ww_iconst C (v := nI 1) dX7_write_30 (by decide) ?_
      refine ww_isubN C (by omega) dX7_write_31 ?_
      refine ww_topi (show nI (q - 1) = nI q - 1 by rw [show q = (q - 1) + 1 by omega, nI_pred]; rfl) ?_
      refine ww_istore4 C dX7_write_32 (by decide) rfl ?_
      have lp34 : ∀ (m : Nat) (r : Nat) (B : Nat → Nat → Nat) (u : Wd), r ≤ q → r < m → (∀ b, ¬ b = 0 → B b = A b) → (∀ j, j < len + (q - r) → B 0 j = ptN t len q v (q - r) j) → MO u B (len + (q - r)) pl kn → fr w u 59 83 → WW g x 5 0 0 n u 34 [some (.ref 59), some (.int (nI q)), some (.long v), none, some (.int (nI r - 1))] [] := by
        intro m
        induction m with
        | zero =>
          intro r B u hr0 hm hBo ht2 hM hf
          exact absurd hm (by omega)
        | succ m ih34 =>
          intro r B u hr0 hm hBo ht2 hM hf
          rcases r with _ | d
          · skip
            refine ww_iload4 C dX7_write_34 ?_
            refine ww_iflt C (tgt := 76) dX7_write_36 (by decide) (fun c36 => ?_) (fun c36 => ?_)
            · skip
              refine ww_aload0 C dX7_write_76 ?_
              refine ww_getf C fl_X7_92 hM.1 rfl dX7_write_77 ?_
              exact ww_riq C dX7_write_80 rfl ⟨Nat.le_of_ble_eq_true rfl, Nat.le_of_ble_eq_true rfl⟩ (by unfold V_write; rw [if_pos c9, hcq, if_pos c23, Nat.sub_zero]) ⟨by unfold T_write L_write; rw [hcq, if_pos ⟨c9, c23⟩, if_pos ⟨c9, c23⟩]; rw [Nat.sub_zero] at hM ht2; exact ⟨B, pl, hM, hRl.txt hBo (by omega) ht2⟩, hf⟩
            · skip
              exact absurd (by decide) c36
          · skip
            rw [nI_pred]
            refine ww_iload4 C dX7_write_34 ?_
            refine ww_iflt C (tgt := 76) dX7_write_36 (by decide) (fun c36 => ?_) (fun c36 => ?_)
            · skip
              exact absurd c36 (nI_pos (by omega))
            · skip
              refine ww_aload0 C dX7_write_39 ?_
              refine ww_getf C fl_X7_7 hM.1 rfl dX7_write_40 ?_
              refine ww_aload0 C dX7_write_43 ?_
              refine ww_getf C fl_X7_92 hM.1 rfl dX7_write_44 ?_
              refine ww_lload2 C dX7_write_47 ?_
              refine ww_bipush C (v := nI 8) dX7_write_48 (by decide) ?_
              refine ww_iload4 C dX7_write_50 ?_
              refine ww_imulN C dX7_write_52 ?_
              refine ww_lshr C dX7_write_53 ?_
              refine ww_ldc2 C (v := 255) kc_X7_96 dX7_write_54 ?_
              refine ww_topl (show (255 : Int64) = lN 255 by decide) ?_
              refine ww_land C dX7_write_57 ?_
              refine ww_l2i C dX7_write_58 ?_
              refine ww_topi (byte_m v (i := d) (by omega)) ?_
              refine ww_iastN C hM.a0 (by omega) dX7_write_59 (kk := fun w1 hw1 => ?_)
              have hf : fr w w1 59 83 := hf.tr (fr.up hw1 (by omega) (by omega))
              obtain ⟨A1, hM, e1, o1⟩ := hM.st 0 (by decide) hw1
              refine ww_aload0 C dX7_write_60 ?_
              refine ww_dup C dX7_write_61 rfl ?_
              refine ww_getf C fl_X7_92 hM.1 rfl dX7_write_62 ?_
              refine ww_iconst C (v := nI 1) dX7_write_65 (by decide) ?_
              refine ww_iaddN C dX7_write_66 ?_
              refine ww_putI C fl_X7_92 hM.1 (Nat.le_of_ble_eq_true rfl) rfl dX7_write_67 (fun w2 hw2 => ?_)
              have hf : fr w w2 59 83 := hf.tr (fr.up hw2 (by omega) (by omega))
              have hM := hM.setO (len2 := len + (q - (d + 1)) + 1) hw2
              refine ww_iinc4 C (u := nI d - 1) dX7_write_70 (dec1 _) (by decide) rfl ?_
              refine ww_goto C (tgt := 34) dX7_write_73 (by decide) ?_
              exact ih34 d A1 _ (by omega) (by omega) (fun b hb => (o1 b hb).trans (hBo b hb)) (fun j hj => by rw [show q - d = q - (d + 1) + 1 by omega] at hj ⊢; rw [← ptN_s, show q - 1 - (q - (d + 1)) = d by omega, e1]; unfold va_up; by_cases c : j = len + (q - (d + 1)); (rw [if_pos c, if_pos c]); (rw [if_neg c, if_neg c]; exact ht2 j (by omega))) (by rw [show q - d = q - (d + 1) + 1 by omega]; exact hM) hf
      exact lp34 (q + 1) q A _ (by omega) (by omega) (fun _ _ => rfl) (by rw [Nat.sub_self, ptN_0]; exact htx) (by rw [Nat.sub_self]; exact hM) hf
    · skip
      refine ww_bipush C (v := -3) dX7_write_26 (by decide) ?_
      exact ww_riq C dX7_write_28 rfl ⟨Nat.le_of_ble_eq_true rfl, Nat.le_of_ble_eq_true rfl⟩ (by unfold V_write; rw [if_pos c9, hcq, if_neg (by omega)]) ⟨by unfold T_write L_write; rw [hcq, if_neg (fun e => by omega), if_neg (fun e => by omega)]; exact hMR, fr.rf⟩
  · skip
    refine ww_iconst C (v := -1) dX7_write_12 (by decide) ?_
    exact ww_riq C dX7_write_13 rfl ⟨Nat.le_of_ble_eq_true rfl, Nat.le_of_ble_eq_true rfl⟩ (by unfold V_write; rw [if_neg (by rw [c9]; decide)]) ⟨by unfold T_write L_write; rw [if_neg (fun e => by rw [c9] at e; cases e.1), if_neg (fun e => by rw [c9] at e; cases e.1)]; exact hMR, fr.rf⟩
/-- the names of book ca stand in book cb too -/
def Cp (B A : Nat → Nat → Nat) (ca cb : Nat) : Prop := (∀ b, ¬ b = 11 → ¬ b = 12 → ¬ b = 13 → B b = A b) ∧ (∀ j, j < 8 → B 11 (8 * cb + j) = A 11 (8 * ca + j) ∧ B 12 (8 * cb + j) = A 12 (8 * ca + j)) ∧ (∀ j, (j < 8 * cb ∨ 8 * cb + 8 ≤ j) → B 11 j = A 11 j ∧ B 12 j = A 12 j) ∧ (∀ j, j < 80 → B 13 (80 * cb + j) = A 13 (80 * ca + j)) ∧ ∀ j, (j < 80 * cb ∨ 80 * cb + 80 ≤ j) → B 13 j = A 13 j
theorem m_copy (g : Gx) (n : Nat) (w : Wd) {A : Nat → Nat → Nat} {len pl km : Nat} (hM : MO w A len pl km) {ca cb : Nat} (hne : ¬ ca = cb) (ha : ca ≤ 3) (hb : cb ≤ 3) : CT g yX7_copy cX7_copy 4 none rm_X7_copy n n w [.ref 59, .int (nI ca), .int (nI cb)] (R0q (fun w1 => ∃ B, MO w1 B len pl km ∧ fr w w1 59 83 ∧ Cp B A ca cb)) := by
  have hf : fr w w 59 83 := fr.rf
  refine CT.start [some (.ref 59), some (.int (nI ca)), some (.int (nI cb)), none] (by decide +kernel) rfl (Nat.le_of_ble_eq_true rfl) (fun x C hnm => ?_)
  refine ww_iconst C (v := nI 0) dX7_copy_0 (by decide) ?_
  refine ww_istore3 C dX7_copy_1 (by decide) rfl ?_
  have lp2 : ∀ (m : Nat) (i : Nat) (B : Nat → Nat → Nat) (u : Wd), i ≤ 8 → 8 < i + m → (∀ b, ¬ b = 11 → ¬ b = 12 → ¬ b = 13 → B b = A b) → B 13 = A 13 → (∀ j, j < i → B 11 (8 * cb + j) = A 11 (8 * ca + j) ∧ B 12 (8 * cb + j) = A 12 (8 * ca + j)) → (∀ j, (j < 8 * cb ∨ 8 * cb + 8 ≤ j) → B 11 j = A 11 j ∧ B 12 j = A 12 j) → MO u B len pl km → fr w u 59 83 → WW g x 4 0 0 n u 2 [some (.ref 59), some (.int (nI ca)), some (.int (nI cb)), some (.int (nI i))] [] := by
    intro m
    induction m with
    | zero =>
      intro i B u hi0 hm hBo h13 hin hout hM hf
      exact absurd hm (by omega)
    | succ m ih2 =>
      intro i B u hi0 hm hBo h13 hin hout hM hf
      refine ww_iload3 C dX7_copy_2 ?_
      refine ww_bipush C (v := nI 8) dX7_copy_3 (by decide) ?_
      refine ww_icmpgeN C (by omega) (tgt := 58) dX7_copy_5 (by decide) (fun c5 => ?_) (fun c5 => ?_)
      · skip
        have ei : i = 8 := by omega
        subst ei
        refine ww_iconst C (v := nI 0) dX7_copy_58 (by decide) ?_
        refine ww_istore3 C dX7_copy_59 (by decide) rfl ?_
        have lp60 : ∀ (m : Nat) (q : Nat) (B : Nat → Nat → Nat) (u : Wd), q ≤ 80 → 80 < q + m → (∀ b, ¬ b = 11 → ¬ b = 12 → ¬ b = 13 → B b = A b) → (∀ j, j < 8 → B 11 (8 * cb + j) = A 11 (8 * ca + j) ∧ B 12 (8 * cb + j) = A 12 (8 * ca + j)) → (∀ j, (j < 8 * cb ∨ 8 * cb + 8 ≤ j) → B 11 j = A 11 j ∧ B 12 j = A 12 j) → (∀ j, j < q → B 13 (80 * cb + j) = A 13 (80 * ca + j)) → (∀ j, (j < 80 * cb ∨ 80 * cb + 80 ≤ j) → B 13 j = A 13 j) → MO u B len pl km → fr w u 59 83 → WW g x 4 0 0 n u 60 [some (.ref 59), some (.int (nI ca)), some (.int (nI cb)), some (.int (nI q))] [] := by
          intro m
          induction m with
          | zero =>
            intro q B u hq0 hm hBo hin hout hin3 hou3 hM hf
            exact absurd hm (by omega)
          | succ m ih60 =>
            intro q B u hq0 hm hBo hin hout hin3 hou3 hM hf
            refine ww_iload3 C dX7_copy_60 ?_
            refine ww_bipush C (v := nI 80) dX7_copy_61 (by decide) ?_
            refine ww_icmpgeN C (by omega) (tgt := 94) dX7_copy_63 (by decide) (fun c63 => ?_) (fun c63 => ?_)
            · skip
              exact ww_rvq C dX7_copy_94 rfl ⟨Nat.le_of_ble_eq_true rfl, Nat.le_of_ble_eq_true rfl⟩ ⟨B, hM, hf, hBo, hin, hout, fun j hj => hin3 j (by omega), hou3⟩
            · skip
              refine ww_aload0 C dX7_copy_66 ?_
              refine ww_getf C fl_X7_49 hM.1 rfl dX7_copy_67 ?_
              refine ww_bipush C (v := nI 80) dX7_copy_70 (by decide) ?_
              refine ww_iload2 C dX7_copy_72 ?_
              refine ww_imulN C dX7_copy_73 ?_
              refine ww_iload3 C dX7_copy_74 ?_
              refine ww_iaddN C dX7_copy_75 ?_
              refine ww_aload0 C dX7_copy_76 ?_
              refine ww_getf C fl_X7_49 hM.1 rfl dX7_copy_77 ?_
              refine ww_bipush C (v := nI 80) dX7_copy_80 (by decide) ?_
              refine ww_iload1 C dX7_copy_82 ?_
              refine ww_imulN C dX7_copy_83 ?_
              refine ww_iload3 C dX7_copy_84 ?_
              refine ww_iaddN C dX7_copy_85 ?_
              refine ww_ialdN C hM.a13 (by omega) dX7_copy_86 (kk := ?_)
              refine ww_iastN C hM.a13 (by omega) dX7_copy_87 (kk := fun w1 hw1 => ?_)
              have hf : fr w w1 59 83 := hf.tr (fr.up hw1 (by omega) (by omega))
              obtain ⟨A1, hM, e1, o1⟩ := hM.st 13 (by decide) hw1
              refine ww_iincN3 C dX7_copy_88 (by decide) rfl ?_
              refine ww_goto C (tgt := 60) dX7_copy_91 (by decide) ?_
              exact ih60 (q + 1) A1 _ (by omega) (by omega) (fun b h1 h2 h3 => (o1 b h3).trans (hBo b h1 h2 h3)) (by rw [o1 11 (by decide), o1 12 (by decide)]; exact hin) (by rw [o1 11 (by decide), o1 12 (by decide)]; exact hout) (fun j hj => by by_cases c : j = q; (rw [c]; exact (up_at e1 rfl).trans (hou3 _ (by omega))); (exact (up_no e1 (by omega)).trans (hin3 j (by omega)))) (fun j hj => (up_no e1 (by omega)).trans (hou3 j hj)) hM hf
        exact lp60 (81) 0 B _ (by omega) (by omega) hBo hin hout (fun j hj => absurd hj (Nat.not_lt_zero _)) (fun j _ => congrFun h13 j) hM hf
      · skip
        refine ww_aload0 C dX7_copy_8 ?_
        refine ww_getf C fl_X7_43 hM.1 rfl dX7_copy_9 ?_
        refine ww_bipush C (v := nI 8) dX7_copy_12 (by decide) ?_
        refine ww_iload2 C dX7_copy_14 ?_
        refine ww_imulN C dX7_copy_15 ?_
        refine ww_iload3 C dX7_copy_16 ?_
        refine ww_iaddN C dX7_copy_17 ?_
        refine ww_aload0 C dX7_copy_18 ?_
        refine ww_getf C fl_X7_43 hM.1 rfl dX7_copy_19 ?_
        refine ww_bipush C (v := nI 8) dX7_copy_22 (by decide) ?_
        refine ww_iload1 C dX7_copy_24 ?_
        refine ww_imulN C dX7_copy_25 ?_
        refine ww_iload3 C dX7_copy_26 ?_
        refine ww_iaddN C dX7_copy_27 ?_
        refine ww_ialdN C hM.a11 (by omega) dX7_copy_28 (kk := ?_)
        refine ww_iastN C hM.a11 (by omega) dX7_copy_29 (kk := fun w2 hw2 => ?_)
        have hf : fr w w2 59 83 := hf.tr (fr.up hw2 (by omega) (by omega))
        obtain ⟨A2, hM, e2, o2⟩ := hM.st 11 (by decide) hw2
        refine ww_aload0 C dX7_copy_30 ?_
        refine ww_getf C fl_X7_46 hM.1 rfl dX7_copy_31 ?_
        refine ww_bipush C (v := nI 8) dX7_copy_34 (by decide) ?_
        refine ww_iload2 C dX7_copy_36 ?_
        refine ww_imulN C dX7_copy_37 ?_
        refine ww_iload3 C dX7_copy_38 ?_
        refine ww_iaddN C dX7_copy_39 ?_
        refine ww_aload0 C dX7_copy_40 ?_
        refine ww_getf C fl_X7_46 hM.1 rfl dX7_copy_41 ?_
        refine ww_bipush C (v := nI 8) dX7_copy_44 (by decide) ?_
        refine ww_iload1 C dX7_copy_46 ?_
        refine ww_imulN C dX7_copy_47 ?_
        refine ww_iload3 C dX7_copy_48 ?_
        refine ww_iaddN C dX7_copy_49 ?_
        refine ww_ialdN C hM.a12 (by omega) dX7_copy_50 (kk := ?_)
        refine ww_iastN C hM.a12 (by omega) dX7_copy_51 (kk := fun w3 hw3 => ?_)
        have hf : fr w w3 59 83 := hf.tr (fr.up hw3 (by omega) (by omega))
        obtain ⟨A3, hM, e3, o3⟩ := hM.st 12 (by decide) hw3
        refine ww_iincN3 C dX7_copy_52 (by decide) rfl ?_
        refine ww_goto C (tgt := 2) dX7_copy_55 (by decide) ?_
        exact ih2 (i + 1) A3 _ (by omega) (by omega) (fun b h1 h2 h3 => (o3 b h2).trans ((o2 b h1).trans (hBo b h1 h2 h3))) (by rw [o3 13 (by decide), o2 13 (by decide)]; exact h13) (fun j hj => by by_cases c : j = i; (rw [c]; exact ⟨(congrFun (o3 11 (by decide)) _).trans ((up_at e2 rfl).trans (hout _ (by omega)).1), (up_at e3 rfl).trans ((congrFun (o2 12 (by decide)) _).trans (hout _ (by omega)).2)⟩); (exact ⟨(congrFun (o3 11 (by decide)) _).trans ((up_no e2 (by omega)).trans (hin j (by omega)).1), (up_no e3 (by omega)).trans ((congrFun (o2 12 (by decide)) _).trans (hin j (by omega)).2)⟩)) (fun j hj => ⟨(congrFun (o3 11 (by decide)) _).trans ((up_no e2 (by omega)).trans (hout j hj).1), (up_no e3 (by omega)).trans ((congrFun (o2 12 (by decide)) _).trans (hout j hj).2)⟩) hM hf
  exact lp2 (9) 0 A _ (by omega) (by omega) (fun _ _ _ _ => rfl) rfl (fun j hj => absurd hj (Nat.not_lt_zero _)) (fun j hj => ⟨rfl, rfl⟩) hM hf
theorem Cp.rn {B A : Nat → Nat → Nat} {ca cb p : Nat} {K M S : Nat → Nat} (e : Cp B A ca cb) (hp : p ≤ 8) (hM : ∀ i, M i ≤ 10) (h : RN A ca p K M S) : RN B cb p K M S := by
  obtain ⟨e1, e2, e3, e4, e5⟩ := e
  intro i hi
  refine ⟨(e2 i (by omega)).1.trans (h i hi).1, (e2 i (by omega)).2.trans (h i hi).2.1, fun q hq => ?_⟩
  have := hM i
  rw [show 10 * (8 * cb + i) + q = 80 * cb + (10 * i + q) by omega, e4 _ (by omega), show 80 * ca + (10 * i + q) = 10 * (8 * ca + i) + q by omega]
  exact (h i hi).2.2 q hq
theorem Cp.oth {B A : Nat → Nat → Nat} {ca cb c p : Nat} {K M S : Nat → Nat} (e : Cp B A ca cb) (hp : p ≤ 8) (hM : ∀ i, M i ≤ 10) (hc : ¬ c = cb) (h : RN A c p K M S) : RN B c p K M S := by
  obtain ⟨e1, e2, e3, e4, e5⟩ := e
  intro i hi
  have := hM i
  exact ⟨(e3 _ (by omega)).1.trans (h i hi).1, (e3 _ (by omega)).2.trans (h i hi).2.1, fun q hq => (e5 _ (by omega)).trans ((h i hi).2.2 q hq)⟩
def Ch (B A : Nat → Nat → Nat) (ca cb : Nat) : Prop := (∀ b, ¬ b = 14 → ¬ b = 15 → B b = A b) ∧ B 14 = va_up (A 14) cb (A 14 ca) ∧ (∀ j, j < 12 → B 15 (12 * cb + j) = A 15 (12 * ca + j)) ∧ ∀ j, (j < 12 * cb ∨ 12 * cb + 12 ≤ j) → B 15 j = A 15 j
theorem m_copyHeard (g : Gx) (n : Nat) (w : Wd) {A : Nat → Nat → Nat} {len pl km : Nat} (hM : MO w A len pl km) {ca cb : Nat} (hne : ¬ ca = cb) (ha : ca ≤ 2) (hb : cb ≤ 2) : CT g yX7_copyHeard cX7_copyHeard 4 none rm_X7_copyHeard n n w [.ref 59, .int (nI ca), .int (nI cb)] (R0q (fun w1 => ∃ B, MO w1 B len pl km ∧ fr w w1 59 83 ∧ Ch B A ca cb)) := by
  have hf : fr w w 59 83 := fr.rf
  refine CT.start [some (.ref 59), some (.int (nI ca)), some (.int (nI cb)), none] (by decide +kernel) rfl (Nat.le_of_ble_eq_true rfl) (fun x C hnm => ?_)
  refine ww_aload0 C dX7_copyHeard_0 ?_
  refine ww_getf C fl_X7_52 hM.1 rfl dX7_copyHeard_1 ?_
  refine ww_iload2 C dX7_copyHeard_4 ?_
  refine ww_aload0 C dX7_copyHeard_5 ?_
  refine ww_getf C fl_X7_52 hM.1 rfl dX7_copyHeard_6 ?_
  refine ww_iload1 C dX7_copyHeard_9 ?_
  refine ww_ialdN C hM.a14 (by omega) dX7_copyHeard_10 (kk := ?_)
  refine ww_iastN C hM.a14 (by omega) dX7_copyHeard_11 (kk := fun w1 hw1 => ?_)
  have hf : fr w w1 59 83 := hf.tr (fr.up hw1 (by omega) (by omega))
  obtain ⟨A1, hM, e1, o1⟩ := hM.st 14 (by decide) hw1
  refine ww_iconst C (v := nI 0) dX7_copyHeard_12 (by decide) ?_
  refine ww_istore3 C dX7_copyHeard_13 (by decide) rfl ?_
  have lp14 : ∀ (m : Nat) (i : Nat) (B : Nat → Nat → Nat) (u : Wd), i ≤ 12 → 12 < i + m → (∀ b, ¬ b = 14 → ¬ b = 15 → B b = A b) → B 14 = va_up (A 14) cb (A 14 ca) → (∀ j, j < i → B 15 (12 * cb + j) = A 15 (12 * ca + j)) → (∀ j, (j < 12 * cb ∨ 12 * cb + 12 ≤ j) → B 15 j = A 15 j) → MO u B len pl km → fr w u 59 83 → WW g x 4 0 0 n u 14 [some (.ref 59), some (.int (nI ca)), some (.int (nI cb)), some (.int (nI i))] [] := by
    intro m
    induction m with
    | zero =>
      intro i B u hi0 hm hBo h14 hin hout hM hf
      exact absurd hm (by omega)
    | succ m ih14 =>
      intro i B u hi0 hm hBo h14 hin hout hM hf
      refine ww_iload3 C dX7_copyHeard_14 ?_
      refine ww_bipush C (v := nI 12) dX7_copyHeard_15 (by decide) ?_
      refine ww_icmpgeN C (by omega) (tgt := 48) dX7_copyHeard_17 (by decide) (fun c17 => ?_) (fun c17 => ?_)
      · skip
        exact ww_rvq C dX7_copyHeard_48 rfl ⟨Nat.le_of_ble_eq_true rfl, Nat.le_of_ble_eq_true rfl⟩ ⟨B, hM, hf, hBo, h14, fun j hj => hin j (by omega), hout⟩
      · skip
        refine ww_aload0 C dX7_copyHeard_20 ?_
        refine ww_getf C fl_X7_55 hM.1 rfl dX7_copyHeard_21 ?_
        refine ww_bipush C (v := nI 12) dX7_copyHeard_24 (by decide) ?_
        refine ww_iload2 C dX7_copyHeard_26 ?_
        refine ww_imulN C dX7_copyHeard_27 ?_
        refine ww_iload3 C dX7_copyHeard_28 ?_
        refine ww_iaddN C dX7_copyHeard_29 ?_
        refine ww_aload0 C dX7_copyHeard_30 ?_
        refine ww_getf C fl_X7_55 hM.1 rfl dX7_copyHeard_31 ?_
        refine ww_bipush C (v := nI 12) dX7_copyHeard_34 (by decide) ?_
        refine ww_iload1 C dX7_copyHeard_36 ?_
        refine ww_imulN C dX7_copyHeard_37 ?_
        refine ww_iload3 C dX7_copyHeard_38 ?_
        refine ww_iaddN C dX7_copyHeard_39 ?_
        refine ww_ialdN C hM.a15 (by omega) dX7_copyHeard_40 (kk := ?_)
        refine ww_iastN C hM.a15 (by omega) dX7_copyHeard_41 (kk := fun w2 hw2 => ?_)
        have hf : fr w w2 59 83 := hf.tr (fr.up hw2 (by omega) (by omega))
        obtain ⟨A2, hM, e2, o2⟩ := hM.st 15 (by decide) hw2
        refine ww_iincN3 C dX7_copyHeard_42 (by decide) rfl ?_
        refine ww_goto C (tgt := 14) dX7_copyHeard_45 (by decide) ?_
        exact ih14 (i + 1) A2 _ (by omega) (by omega) (fun b h1 h2 => (o2 b h2).trans (hBo b h1 h2)) (by rw [o2 14 (by decide)]; exact h14) (fun j hj => by by_cases c : j = i; (rw [c]; exact (up_at e2 rfl).trans (hout _ (by omega))); (exact (up_no e2 (by omega)).trans (hin j (by omega)))) (fun j hj => (up_no e2 (by omega)).trans (hout j hj)) hM hf
  exact lp14 (13) 0 A1 _ (by omega) (by omega) (fun b h1 _ => o1 b h1) e1 (fun j hj => absurd hj (Nat.not_lt_zero _)) (fun j _ => congrFun (o1 15 (by decide)) j) hM hf
theorem Ch.re {B A : Nat → Nat → Nat} {ca cb m : Nat} {hd : Nat → Nat} (e : Ch B A ca cb) (hm : m ≤ 12) (h : RE A ca hd m) : RE B cb hd m := by
  obtain ⟨e1, e2, e3, e4⟩ := e
  exact ⟨by rw [e2, va_upd_self]; exact h.1, fun j hj => (e3 j (by omega)).trans (h.2 j hj)⟩
theorem Ch.oth {B A : Nat → Nat → Nat} {ca cb c m : Nat} {hd : Nat → Nat} (e : Ch B A ca cb) (hm : m ≤ 12) (hc : ¬ c = cb) (h : RE A c hd m) : RE B c hd m := by
  obtain ⟨e1, e2, e3, e4⟩ := e
  exact ⟨by rw [e2, va_upd_ne _ _ hc]; exact h.1, fun j hj => (e4 _ (by omega)).trans (h.2 j hj)⟩
theorem RN.eqv {B A : Nat → Nat → Nat} {bk p : Nat} {K M S : Nat → Nat} (h11 : B 11 = A 11) (h12 : B 12 = A 12) (h13 : B 13 = A 13) (h : RN A bk p K M S) : RN B bk p K M S := by unfold RN; rw [h11, h12, h13]; exact h
theorem RE.eqv {B A : Nat → Nat → Nat} {bk m : Nat} {hd : Nat → Nat} (h14 : B 14 = A 14) (h15 : B 15 = A 15) (h : RE A bk hd m) : RE B bk hd m := by unfold RE; rw [h14, h15]; exact h
theorem RH.eqv {B A : Nat → Nat → Nat} {h : Hs} (e : ∀ b, b < 11 → B b = A b) (q : RH A h) : RH B h := by
  unfold RH
  rw [e 1 (by decide), e 5 (by decide), e 6 (by decide), e 7 (by decide), e 8 (by decide), e 9 (by decide), e 10 (by decide)]
  exact q
