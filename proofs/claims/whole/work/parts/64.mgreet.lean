theorem in_m {x : Int32} : inB x.toInt64 (-1) (lN 7) = wb (-1) (nI 7) x := by
  unfold inB wb
  rw [Int32.toInt_toInt64, lN_toInt (by decide), nI_toInt (by decide)]
  rfl
theorem ng_eq {p b s : Nat} {Lo Ra : Nat → Nat} (hp : p ≤ 8) (hb1 : 1 ≤ b) (hb : b ≤ 12) (hL1 : ∀ i, i < p → 1 ≤ Lo i) {l x fe i : Nat} (hl : l < 2 ^ p) (hx : Vd b x) (hfe : x / 16 + fR (b - x % 16) (pcN p b Lo (hiN Ra p s) l) = fe) (hi : i < p) (hm : mbN (hiN Ra p s) l i = true) : (bfN b (Lo i) (b - x % 16) + fR (rbN b (Lo i) (b - x % 16)) (pcN p b Lo (hiN Ra p s) (l ^^^ 2 ^ i)) = fR (b - x % 16) (pcN p b Lo (hiN Ra p s) l)) ↔ ngB b Lo (hiN Ra p s) (pcN p b Lo (hiN Ra p s)) l x fe i = true := by
  have h256 := p256 hp
  have ht := mb_tb hm
  have hxb := xor_bit (s := l) (i := i) (by omega) (by omega) ht
  unfold ngB
  rw [hm, Bool.true_and, decide_eq_true_iff, jn_fR hb (hx.pk hb1 hb (hL1 i hi)).2 (pcN_V hp hb1 hb hL1 _ _ (Nat.le_refl _) (by omega)), (pk_fwd hb1 hb (hL1 i hi) hx).1, (pk_fwd hb1 hb (hL1 i hi) hx).2]
  omega
theorem grt_0 {l n : Nat} (h : bcN l + n = n) (hl : l < 256) : l = 0 := by
  have h1 : bcN l = bcN 0 := by rw [show bcN 0 = 0 from rfl]; omega
  have h2 := (cnN_sub (b := tb 0) (c := tb l) (n := 8) (fun i e => by rw [tb_00] at e; cases e)).2 h1.symm
  apply Nat.eq_of_testBit_eq
  intro k
  by_cases hk : k < 8
  · exact (h2 k hk).symm
  · rw [tb_big hl (by omega), Nat.zero_testBit]
theorem gr_pk {p b s : Nat} {Lo Ra : Nat → Nat} (hp : p ≤ 8) (hb1 : 1 ≤ b) (hb : b ≤ 12) (hL1 : ∀ i, i < p → 1 ≤ Lo i) (hs : s < 2 ^ p) {l x fe c : Nat} (h : l &&& s = l ∧ bcN l + c = bcN s ∧ Vd b x ∧ x / 16 + fR (b - x % 16) (pcN p b Lo (hiN Ra p s) l) = fe) (hc : c < bcN s) : ∃ v, fstN (ngB b Lo (hiN Ra p s) (pcN p b Lo (hiN Ra p s)) l x fe) p = some v := by
  obtain ⟨i1, i2, i3, i4⟩ := h
  exact oc_pk hp hb1 hb hL1 hs (bc_0 (by omega)) i1 i3 (i3.m hb1 hb).1 (i3.m hb1 hb).2 i4
theorem m_greet (g : Gx) (n : Nat) (w : Wd) {t : Nat → Nat} {len : Nat} {h : Hs} {a : Ms} {kn : Nat} {k1 k2 : Ms} (hMR : MR w t len h a kn k1 k2) (hB : Bd h a) (hBk : Bk kn k1 k2) (s i : Int32) : CT g yX7_greet cX7_greet 7 (some .int) rm_X7_greet n n w [.ref 59, .int s, .int i] (Rq (.int (V_greet h a s i)) (fun w1 => MR w1 t len h a kn k1 k2 ∧ fr w w1 59 83)) := by
  obtain ⟨A, pl, hM, hRl⟩ := id hMR
  have hf : fr w w 59 83 := fr.rf
  obtain ⟨⟨hp1, hp8⟩, ⟨hb1, hb12, hv20, hmi9⟩, hK3, hM10, hS5, hM1, hX99, hR9, hwo5, hsh1, hbe9, hhd9, hhn12⟩ := id hB
  obtain ⟨hln, hkn2, htx, hRH, hRN, hRE, hk1r, hk2r⟩ := id hRl
  obtain ⟨rp, rX, rw_, rb, rv, rm_⟩ := id hRH
  refine CT.start [some (.ref 59), some (.int s), some (.int i), none, none, none, none] (by decide +kernel) rfl (Nat.le_of_ble_eq_true rfl) (fun x C hnm => ?_)
  refine ww_aload0 C dX7_greet_0 ?_
  refine ww_iload1 C dX7_greet_1 ?_
  refine ww_cV1v C hM.1 rfl (m_isSet g n w hM _ rp hp8) kV_X7_156 ⟨Nat.le_of_ble_eq_true rfl, Nat.le_of_ble_eq_true rfl⟩ ⟨rfl, rfl⟩ ⟨Nat.le_of_ble_eq_true rfl, Nat.le_of_ble_eq_true rfl⟩ (Nat.le_of_ble_eq_true rfl) dX7_greet_2 ?_
  refine ww_ifeqB C (tgt := 22) dX7_greet_5 (by decide) (fun c5 => ?_) (fun c5 => ?_)
  · skip
    refine ww_iconst C (v := -1) dX7_greet_22 (by decide) ?_
    exact ww_riq C dX7_greet_23 rfl ⟨Nat.le_of_ble_eq_true rfl, Nat.le_of_ble_eq_true rfl⟩ (by unfold V_greet; rw [if_neg (fun e => by rw [c5] at e; cases e.1)]) ⟨hMR, fr.rf⟩
  · skip
    obtain ⟨q, hq1, hqm, rfl⟩ := stB_of c5
    have h256 := p256 hp8
    have hcq : (nI q).toNatClampNeg = q := cl_nI (by omega)
    refine ww_iload2 C dX7_greet_8 ?_
    refine ww_i2l C dX7_greet_9 ?_
    refine ww_ldc2 C (v := -1) kc_X7_190 dX7_greet_10 ?_
    refine ww_ldc2 C (v := 7) kc_X7_174 dX7_greet_13 ?_
    refine ww_topl (show (7 : Int64) = lN 7 by decide) ?_
    refine ww_cS3v C (c_inR g n w _ _ _) kS_X7_88 ⟨Nat.le_of_ble_eq_true rfl, Nat.le_of_ble_eq_true rfl⟩ ⟨rfl, rfl⟩ ⟨Nat.le_of_ble_eq_true rfl, Nat.le_of_ble_eq_true rfl⟩ (Nat.le_of_ble_eq_true rfl) dX7_greet_16 ?_
    refine ww_topi (show bz _ = bz (wb (-1) (nI 7) i) by rw [in_m]) ?_
    refine ww_ifneB C (tgt := 24) dX7_greet_19 (by decide) (fun c19 => ?_) (fun c19 => ?_)
    · skip
      by_cases hm1 : i = -1
      · subst hm1
        refine ww_aload0 C dX7_greet_24 ?_
        refine ww_cV00q C hM.1 rfl (m_sayNow g n w hM hRl hB hBk) kV_X7_145 ⟨Nat.le_of_ble_eq_true rfl, Nat.le_of_ble_eq_true rfl⟩ ⟨rfl, rfl⟩ ⟨Nat.le_of_ble_eq_true rfl, Nat.le_of_ble_eq_true rfl⟩ (Nat.le_of_ble_eq_true rfl) dX7_greet_25 (fun w1 hw1 => ?_)
        obtain ⟨B, hM, hf1, hBo, hRl, hSd⟩ := hw1
        have hf := hf.tr hf1
        have hSy := Sy.of hRl hB hSd
        refine ww_aload0 C dX7_greet_28 ?_
        refine ww_iload1 C dX7_greet_29 ?_
        refine ww_cV10q C hM.1 rfl (m_layNeeds g n w1 hM hSy hB (s := q) hqm) kV_X7_192 ⟨Nat.le_of_ble_eq_true rfl, Nat.le_of_ble_eq_true rfl⟩ ⟨rfl, rfl⟩ ⟨Nat.le_of_ble_eq_true rfl, Nat.le_of_ble_eq_true rfl⟩ (Nat.le_of_ble_eq_true rfl) dX7_greet_30 (fun w2 hw2 => ?_)
        obtain ⟨D, hM, hf2, hDo, hNd, hSy⟩ := hw2
        have hf := hf.tr hf2
        have hRl := hRl.sm hB hBk (Sm.all (fun b hb => hDo b (by omega)))
        have hL1 : ∀ i, i < h.2.2.2.1 → 1 ≤ longN a.1 a.2.1 i := fun i hi => longN_1 (hM1 i hi)
        have hgo := oc_go (b := h.2.2.2.2.2.2.2.2.2.1) (Lo := longN a.1 a.2.1) (Ra := h.2.2.2.2.2.1) (s := q) hp8 hb1 hb12 hL1 hqm (by omega) (fe := F_greet h a q) rfl
        refine ww_iload2 C dX7_greet_33 ?_
        refine ww_ifge C (tgt := 44) dX7_greet_34 (by decide) (fun c34 => ?_) (fun c34 => ?_)
        · skip
          exact absurd c34 (by decide)
        · skip
          refine ww_aload0 C dX7_greet_37 ?_
          refine ww_getf C fl_X7_76 hM.1 rfl dX7_greet_38 ?_
          refine ww_iconst C (v := nI 0) dX7_greet_41 (by decide) ?_
          refine ww_ialdN C hM.a22 (by decide) dX7_greet_42 (kk := ?_)
          exact ww_riq C dX7_greet_43 rfl ⟨Nat.le_of_ble_eq_true rfl, Nat.le_of_ble_eq_true rfl⟩ (by unfold V_greet; rw [if_pos ⟨c5, c19⟩, if_pos rfl, hcq]; have h1 := (hNd 0 (by omega) 0 (by decide)).2 (Nat.zero_and q) (by omega); rw [Nat.xor_zero] at h1; have h2 := (hgo 0 (Nat.zero_le _)).2.2.2; have h3 : h.2.2.2.2.2.2.2.2.2.1 / 16 + fR (h.2.2.2.2.2.2.2.2.2.1 - h.2.2.2.2.2.2.2.2.2.1 % 16) ((pcN h.2.2.2.1 h.2.2.2.2.2.2.2.2.2.1 (longN a.1 a.2.1) (hiN h.2.2.2.2.2.1 h.2.2.2.1 q)) q) = (F_greet h a q) := h2; rw [show h.2.2.2.2.2.2.2.2.2.1 - h.2.2.2.2.2.2.2.2.2.1 % 16 = 0 by omega, show h.2.2.2.2.2.2.2.2.2.1 / 16 = 0 by omega, Nat.zero_add] at h3; rw [← h3]; exact congrArg nI h1) ⟨⟨D, pl, hM, hRl⟩, hf⟩
      · obtain ⟨y, hy7, rfl⟩ := wb_m c19 hm1
        have hcy : (nI y).toNatClampNeg = y := cl_nI (by omega)
        refine ww_aload0 C dX7_greet_24 ?_
        refine ww_cV00q C hM.1 rfl (m_sayNow g n w hM hRl hB hBk) kV_X7_145 ⟨Nat.le_of_ble_eq_true rfl, Nat.le_of_ble_eq_true rfl⟩ ⟨rfl, rfl⟩ ⟨Nat.le_of_ble_eq_true rfl, Nat.le_of_ble_eq_true rfl⟩ (Nat.le_of_ble_eq_true rfl) dX7_greet_25 (fun w3 hw3 => ?_)
        obtain ⟨B, hM, hf1, hBo, hRl, hSd⟩ := hw3
        have hf := hf.tr hf1
        have hSy := Sy.of hRl hB hSd
        refine ww_aload0 C dX7_greet_28 ?_
        refine ww_iload1 C dX7_greet_29 ?_
        refine ww_cV10q C hM.1 rfl (m_layNeeds g n w3 hM hSy hB (s := q) hqm) kV_X7_192 ⟨Nat.le_of_ble_eq_true rfl, Nat.le_of_ble_eq_true rfl⟩ ⟨rfl, rfl⟩ ⟨Nat.le_of_ble_eq_true rfl, Nat.le_of_ble_eq_true rfl⟩ (Nat.le_of_ble_eq_true rfl) dX7_greet_30 (fun w4 hw4 => ?_)
        obtain ⟨D, hM, hf2, hDo, hNd, hSy⟩ := hw4
        have hf := hf.tr hf2
        have hRl := hRl.sm hB hBk (Sm.all (fun b hb => hDo b (by omega)))
        have hL1 : ∀ i, i < h.2.2.2.1 → 1 ≤ longN a.1 a.2.1 i := fun i hi => longN_1 (hM1 i hi)
        have hgo := oc_go (b := h.2.2.2.2.2.2.2.2.2.1) (Lo := longN a.1 a.2.1) (Ra := h.2.2.2.2.2.1) (s := q) hp8 hb1 hb12 hL1 hqm (by omega) (fe := F_greet h a q) rfl
        refine ww_iload2 C dX7_greet_33 ?_
        refine ww_ifge C (tgt := 44) dX7_greet_34 (by decide) (fun c34 => ?_) (fun c34 => ?_)
        · skip
          refine ww_iload2 C dX7_greet_44 ?_
          refine ww_iload1 C dX7_greet_45 ?_
          refine ww_cS1v C (c_bits g n w4 (s := q) (by omega)) kS_X7_166 ⟨Nat.le_of_ble_eq_true rfl, Nat.le_of_ble_eq_true rfl⟩ ⟨rfl, rfl⟩ ⟨Nat.le_of_ble_eq_true rfl, Nat.le_of_ble_eq_true rfl⟩ (Nat.le_of_ble_eq_true rfl) dX7_greet_46 ?_
          refine ww_icmpltN C (by have := bcN_le q; omega) (tgt := 55) dX7_greet_49 (by decide) (fun c49 => ?_) (fun c49 => ?_)
          · skip
            refine ww_iconst C (v := nI 0) dX7_greet_55 (by decide) ?_
            refine ww_istore3 C dX7_greet_56 (by decide) rfl ?_
            refine ww_iconst C (v := nI 0) dX7_greet_57 (by decide) ?_
            refine ww_istore4 C dX7_greet_58 (by decide) rfl ?_
            refine ww_iconst C (v := nI 0) dX7_greet_60 (by decide) ?_
            refine ww_istore5 C dX7_greet_61 (by decide) rfl ?_
            refine ww_iconst C (v := nI 0) dX7_greet_63 (by decide) ?_
            refine ww_istore6 C dX7_greet_64 (by decide) rfl ?_
            have lp66 : ∀ (m : Nat) (k so room who : Nat), k ≤ y + 1 → y + 1 < k + m → so = q ^^^ (O_greet h a q k).1 → room = (h.2.2.2.2.2.2.2.2.2.1 - (O_greet h a q k).2 % 16) → (1 ≤ k → K_greet h a q (k - 1) = some who) → WW g x 7 0 0 n w4 66 [some (.ref 59), some (.int (nI q)), some (.int (nI y)), some (.int (nI so)), some (.int (nI room)), some (.int (nI who)), some (.int (nI k))] [] := by
              intro m
              induction m with
              | zero =>
                intro k so room who hk hm hso hroom hwho
                exact absurd hm (by omega)
              | succ m ih66 =>
                intro k so room who hk hm hso hroom hwho
                have hgk := hgo k (by omega)
                obtain ⟨r1, r2, r3, r4⟩ := hgk
                have i1 : (O_greet h a q k).1 &&& q = (O_greet h a q k).1 := r1
                have i2 : bcN (O_greet h a q k).1 + k = bcN q := r2
                have i3 : Vd h.2.2.2.2.2.2.2.2.2.1 (O_greet h a q k).2 := r3
                have i4 : (O_greet h a q k).2 / 16 + fR (h.2.2.2.2.2.2.2.2.2.1 - (O_greet h a q k).2 % 16) ((pcN h.2.2.2.1 h.2.2.2.2.2.2.2.2.2.1 (longN a.1 a.2.1) (hiN h.2.2.2.2.2.1 h.2.2.2.1 q)) (O_greet h a q k).1) = (F_greet h a q) := r4
                have hlq := sub_le i1
                have hlp : (O_greet h a q k).1 < 2 ^ h.2.2.2.1 := by have h9 : (O_greet h a q k).1 ≤ q := hlq; omega
                have hr9 : (h.2.2.2.2.2.2.2.2.2.1 - (O_greet h a q k).2 % 16) < h.2.2.2.2.2.2.2.2.2.1 := (i3.m hb1 hb12).2
                refine ww_iload6 C dX7_greet_66 ?_
                refine ww_iload2 C dX7_greet_68 ?_
                refine ww_icmpgtN C (by omega) (tgt := 162) dX7_greet_69 (by decide) (fun c69 => ?_) (fun c69 => ?_)
                · skip
                  refine ww_iload5 C dX7_greet_162 ?_
                  exact ww_riq C dX7_greet_164 rfl ⟨Nat.le_of_ble_eq_true rfl, Nat.le_of_ble_eq_true rfl⟩ (by unfold V_greet; rw [if_pos ⟨c5, c19⟩, if_neg hm1, hcq, hcy]; have ek : k = y + 1 := (by omega); subst ek; have hw9 := hwho (by omega); rw [Nat.add_sub_cancel] at hw9; exact Eq.symm (sq_w (fun j hj => ⟨gr_pk hp8 hb1 hb12 hL1 hqm (hgo j (by omega)) (by omega), decide_eq_false (fun e => by have h1 : bcN (O_greet h a q j).1 + j = bcN q := (hgo j (by omega)).2.1; rw [e, show bcN 0 = 0 from rfl] at h1; omega)⟩) hw9)) ⟨⟨D, pl, hM, hRl⟩, hf⟩
                · skip
                  obtain ⟨i0, hpk⟩ := oc_pk hp8 hb1 hb12 hL1 hqm (bc_0 (by omega)) r1 r3 (r3.m hb1 hb12).1 (r3.m hb1 hb12).2 r4
                  have hpk2 := ocN_s hpk
                  obtain ⟨j1, j2, j3⟩ := fstN_spec hpk
                  have j2 : ngB h.2.2.2.2.2.2.2.2.2.1 (longN a.1 a.2.1) (hiN h.2.2.2.2.2.1 h.2.2.2.1 q) (pcN h.2.2.2.1 h.2.2.2.2.2.2.2.2.2.1 (longN a.1 a.2.1) (hiN h.2.2.2.2.2.1 h.2.2.2.1 q)) (O_greet h a q k).1 (O_greet h a q k).2 (F_greet h a q) i0 = true := j2
                  have j3 : ∀ j, j < i0 → ngB h.2.2.2.2.2.2.2.2.2.1 (longN a.1 a.2.1) (hiN h.2.2.2.2.2.1 h.2.2.2.1 q) (pcN h.2.2.2.1 h.2.2.2.2.2.2.2.2.2.1 (longN a.1 a.2.1) (hiN h.2.2.2.2.2.1 h.2.2.2.1 q)) (O_greet h a q k).1 (O_greet h a q k).2 (F_greet h a q) j = false := j3
                  have hso2 : so &&& q = so := by rw [hso]; exact x_sub i1
                  have hso3 : q ^^^ so = (O_greet h a q k).1 := by rw [hso]; exact x_x _ _
                  have hsoq := sub_le hso2
                  have hrm : room < h.2.2.2.2.2.2.2.2.2.1 := by rw [hroom]; exact hr9
                  refine ww_iconst C (v := nI 0) dX7_greet_72 (by decide) ?_
                  refine ww_istore5 C dX7_greet_73 (by decide) rfl ?_
                  have lp75 : ∀ (m : Nat) (i : Nat), i ≤ i0 → i0 < i + m → WW g x 7 0 0 n w4 75 [some (.ref 59), some (.int (nI q)), some (.int (nI y)), some (.int (nI so)), some (.int (nI room)), some (.int (nI i)), some (.int (nI k))] [] := by
                    intro m
                    induction m with
                    | zero =>
                      intro i hii hm
                      exact absurd hm (by omega)
                    | succ m ih75 =>
                      intro i hii hm
                      refine ww_aload0 C dX7_greet_75 ?_
                      refine ww_iload1 C dX7_greet_76 ?_
                      refine ww_iload3 C dX7_greet_77 ?_
                      refine ww_iload5 C dX7_greet_78 ?_
                      refine ww_cV3v C hM.1 rfl (m_mayGreet g n w4 hM hSy.1 hp8 hqm hso2 (by omega) (Ra := h.2.2.2.2.2.1) (i := i) (fun i hi => ⟨(hSy.2.2.2.2.2 i hi).2, hR9 i⟩)) kV_X7_180 ⟨Nat.le_of_ble_eq_true rfl, Nat.le_of_ble_eq_true rfl⟩ ⟨rfl, rfl⟩ ⟨Nat.le_of_ble_eq_true rfl, Nat.le_of_ble_eq_true rfl⟩ (Nat.le_of_ble_eq_true rfl) dX7_greet_80 ?_
                      rw [hso3]
                      refine ww_ifeqB C (tgt := 133) dX7_greet_83 (by decide) (fun c83 => ?_) (fun c83 => ?_)
                      · skip
                        refine ww_iincN5 C dX7_greet_133 (by decide) rfl ?_
                        refine ww_goto C (tgt := 75) dX7_greet_136 (by decide) ?_
                        exact ih75 (i + 1) (Nat.lt_of_le_of_ne hii (fun e => by have hno : ngB h.2.2.2.2.2.2.2.2.2.1 (longN a.1 a.2.1) (hiN h.2.2.2.2.2.1 h.2.2.2.1 q) (pcN h.2.2.2.1 h.2.2.2.2.2.2.2.2.2.1 (longN a.1 a.2.1) (hiN h.2.2.2.2.2.1 h.2.2.2.1 q)) (O_greet h a q k).1 (O_greet h a q k).2 (F_greet h a q) i = false := (by unfold ngB; rw [c83, Bool.false_and]); rw [e, j2] at hno; cases hno)) (by omega)
                      · skip
                        have ht := mb_tb c83
                        have hxx := ht
                        rw [← hso3] at hxx
                        obtain ⟨t1, t2⟩ := x_in hso2 hxx
                        have hor2 := sub_le (or_sub hso2 t1)
                        refine ww_aload0 C dX7_greet_86 ?_
                        refine ww_iload5 C dX7_greet_87 ?_
                        refine ww_iload4 C dX7_greet_89 ?_
                        refine ww_cV2v C hM.1 rfl (m_breathsFor g n w4 hM (b := h.2.2.2.2.2.2.2.2.2.1) (lo := (longN a.1 a.2.1) i) (r := room) (i := i) hSy.2.1 (And.intro hb1 hb12) (by omega) (hSy.2.2.2.1 i (by omega)).1 (hSy.2.2.2.1 i (by omega)).2 (by omega)) kV_X7_183 ⟨Nat.le_of_ble_eq_true rfl, Nat.le_of_ble_eq_true rfl⟩ ⟨rfl, rfl⟩ ⟨Nat.le_of_ble_eq_true rfl, Nat.le_of_ble_eq_true rfl⟩ (Nat.le_of_ble_eq_true rfl) dX7_greet_91 ?_
                        refine ww_aload0 C dX7_greet_94 ?_
                        refine ww_getf C fl_X7_76 hM.1 rfl dX7_greet_95 ?_
                        refine ww_bipush C (v := nI 13) dX7_greet_98 (by decide) ?_
                        refine ww_iload3 C dX7_greet_100 ?_
                        refine ww_iconst C (v := nI 1) dX7_greet_101 (by decide) ?_
                        refine ww_iload5 C dX7_greet_102 ?_
                        refine ww_shl1N C (by omega) dX7_greet_104 ?_
                        refine ww_iorN C dX7_greet_105 ?_
                        refine ww_imulN C dX7_greet_106 ?_
                        refine ww_aload0 C dX7_greet_107 ?_
                        refine ww_iload5 C dX7_greet_108 ?_
                        refine ww_iload4 C dX7_greet_110 ?_
                        refine ww_cV2v C hM.1 rfl (m_roomBehind g n w4 hM (b := h.2.2.2.2.2.2.2.2.2.1) (lo := (longN a.1 a.2.1) i) (r := room) (i := i) hSy.2.1 (And.intro hb1 hb12) (by omega) (hSy.2.2.2.1 i (by omega)).1 (hSy.2.2.2.1 i (by omega)).2 (by omega)) kV_X7_187 ⟨Nat.le_of_ble_eq_true rfl, Nat.le_of_ble_eq_true rfl⟩ ⟨rfl, rfl⟩ ⟨Nat.le_of_ble_eq_true rfl, Nat.le_of_ble_eq_true rfl⟩ (Nat.le_of_ble_eq_true rfl) dX7_greet_112 ?_
                        refine ww_iaddN C dX7_greet_115 ?_
                        refine ww_ialdN C hM.a22 (by have := rb_lt (b := h.2.2.2.2.2.2.2.2.2.1) (lo := (longN a.1 a.2.1) i) (r := room) hb12 (by omega); omega) dX7_greet_116 (kk := ?_)
                        rw [(hNd _ hor2 _ (rb_lt hb12 (by omega))).2 (or_sub hso2 t1) (rb_b hb1 (hL1 i (by omega)) hrm), x_or t2, hso3]
                        refine ww_iaddN C dX7_greet_117 ?_
                        refine ww_aload0 C dX7_greet_118 ?_
                        refine ww_getf C fl_X7_76 hM.1 rfl dX7_greet_119 ?_
                        refine ww_bipush C (v := nI 13) dX7_greet_122 (by decide) ?_
                        refine ww_iload3 C dX7_greet_124 ?_
                        refine ww_imulN C dX7_greet_125 ?_
                        refine ww_iload4 C dX7_greet_126 ?_
                        refine ww_iaddN C dX7_greet_128 ?_
                        refine ww_ialdN C hM.a22 (by have := sub_le hso2; omega) dX7_greet_129 (kk := ?_)
                        rw [(hNd _ (sub_le hso2) room (by omega)).2 hso2 hrm, hso3]
                        refine ww_icmpeqN C (by have h1 := bf_le (b := h.2.2.2.2.2.2.2.2.2.1) (r := room) hb1 (longN_le (K := a.1) (hM10 i)); have h2 := fR_160 (b := h.2.2.2.2.2.2.2.2.2.1) (Lo := longN a.1 a.2.1) (Ra := h.2.2.2.2.2.1) (s := q) hp8 hb1 hb12 (fun i _ => longN_le (hM10 i)) (rbN h.2.2.2.2.2.2.2.2.2.1 ((longN a.1 a.2.1) i) room) (q := (O_greet h a q k).1 ^^^ 2 ^ i) (by have := xor_bit (s := (O_greet h a q k).1) (i := i) (by omega) (by omega) ht; omega); have h3 := fR_160 (b := h.2.2.2.2.2.2.2.2.2.1) (Lo := longN a.1 a.2.1) (Ra := h.2.2.2.2.2.1) (s := q) hp8 hb1 hb12 (fun i _ => longN_le (hM10 i)) room (q := (O_greet h a q k).1) (by omega); omega) (tgt := 139) dX7_greet_130 (by decide) (fun c130 => ?_) (fun c130 => ?_)
                        · skip
                          have hyes : ngB h.2.2.2.2.2.2.2.2.2.1 (longN a.1 a.2.1) (hiN h.2.2.2.2.2.1 h.2.2.2.1 q) (pcN h.2.2.2.1 h.2.2.2.2.2.2.2.2.2.1 (longN a.1 a.2.1) (hiN h.2.2.2.2.2.1 h.2.2.2.1 q)) (O_greet h a q k).1 (O_greet h a q k).2 (F_greet h a q) i = true := (ng_eq hp8 hb1 hb12 hL1 hlp i3 i4 (by omega) c83).mp (by rw [← hroom]; exact c130)
                          have eii : i = i0 := by
                            apply Classical.byContradiction
                            intro e
                            have hno := j3 i (by omega)
                            rw [hyes] at hno
                            cases hno
                          subst eii
                          refine ww_iload3 C dX7_greet_139 ?_
                          refine ww_iconst C (v := nI 1) dX7_greet_140 (by decide) ?_
                          refine ww_iload5 C dX7_greet_141 ?_
                          refine ww_shl1N C (by omega) dX7_greet_143 ?_
                          refine ww_iorN C dX7_greet_144 ?_
                          refine ww_istore3 C dX7_greet_145 (by decide) rfl ?_
                          refine ww_aload0 C dX7_greet_146 ?_
                          refine ww_iload5 C dX7_greet_147 ?_
                          refine ww_iload4 C dX7_greet_149 ?_
                          refine ww_cV2v C hM.1 rfl (m_roomBehind g n w4 hM (b := h.2.2.2.2.2.2.2.2.2.1) (lo := (longN a.1 a.2.1) i) (r := room) (i := i) hSy.2.1 (And.intro hb1 hb12) (by omega) (hSy.2.2.2.1 i (by omega)).1 (hSy.2.2.2.1 i (by omega)).2 (by omega)) kV_X7_187 ⟨Nat.le_of_ble_eq_true rfl, Nat.le_of_ble_eq_true rfl⟩ ⟨rfl, rfl⟩ ⟨Nat.le_of_ble_eq_true rfl, Nat.le_of_ble_eq_true rfl⟩ (Nat.le_of_ble_eq_true rfl) dX7_greet_151 ?_
                          refine ww_istore4 C dX7_greet_154 (by decide) rfl ?_
                          refine ww_iincN6 C dX7_greet_156 (by decide) rfl ?_
                          refine ww_goto C (tgt := 66) dX7_greet_159 (by decide) ?_
                          exact ih66 (k + 1) _ _ i (by omega) (by omega) (by show so ||| 2 ^ i = q ^^^ (O_greet h a q (k + 1)).1; unfold O_greet; rw [hpk2]; show so ||| 2 ^ i = q ^^^ ((O_greet h a q k).1 ^^^ 2 ^ i); rw [hso3.symm, ← x_or t2, x_x]) (by show _ = h.2.2.2.2.2.2.2.2.2.1 - (O_greet h a q (k + 1)).2 % 16; unfold O_greet; rw [hpk2]; show _ = h.2.2.2.2.2.2.2.2.2.1 - pkd h.2.2.2.2.2.2.2.2.2.1 ((longN a.1 a.2.1) i) (O_greet h a q k).2 % 16; rw [(pk_fwd hb1 hb12 (hL1 i j1) i3).2, hroom]) (fun _ => hpk)
                        · skip
                          refine ww_iincN5 C dX7_greet_133 (by decide) rfl ?_
                          refine ww_goto C (tgt := 75) dX7_greet_136 (by decide) ?_
                          exact ih75 (i + 1) (Nat.lt_of_le_of_ne hii (fun e => by have hno : ngB h.2.2.2.2.2.2.2.2.2.1 (longN a.1 a.2.1) (hiN h.2.2.2.2.2.1 h.2.2.2.1 q) (pcN h.2.2.2.1 h.2.2.2.2.2.2.2.2.2.1 (longN a.1 a.2.1) (hiN h.2.2.2.2.2.1 h.2.2.2.1 q)) (O_greet h a q k).1 (O_greet h a q k).2 (F_greet h a q) i = false := (Bool.eq_false_iff.mpr (fun e => c130 (by rw [hroom]; exact (ng_eq hp8 hb1 hb12 hL1 hlp i3 i4 (by omega) c83).mpr e))); rw [e, j2] at hno; cases hno)) (by omega)
                  exact lp75 (i0 + 1) 0 (by omega) (by omega)
            exact lp66 (y + 2) 0 0 0 0 (by omega) (by omega) (by show 0 = q ^^^ q; rw [Nat.xor_self]) (by show 0 = h.2.2.2.2.2.2.2.2.2.1 - h.2.2.2.2.2.2.2.2.2.1 % 16; omega) (fun e => absurd e (by omega))
          · skip
            refine ww_bipush C (v := -4) dX7_greet_52 (by decide) ?_
            exact ww_riq C dX7_greet_54 rfl ⟨Nat.le_of_ble_eq_true rfl, Nat.le_of_ble_eq_true rfl⟩ (by unfold V_greet; rw [if_pos ⟨c5, c19⟩, if_neg hm1, hcq, hcy]; exact Eq.symm (sq_out (od := bcN q) c49 (Or.inl (decide_eq_true (grt_0 (hgo (bcN q) (Nat.le_refl _)).2.1 (Nat.lt_of_le_of_lt (sub_le (hgo (bcN q) (Nat.le_refl _)).1) (show q < 256 by omega))))))) ⟨⟨D, pl, hM, hRl⟩, hf⟩
        · skip
          exact absurd (nI_ge0 (by omega)) c34
    · skip
      refine ww_iconst C (v := -1) dX7_greet_22 (by decide) ?_
      exact ww_riq C dX7_greet_23 rfl ⟨Nat.le_of_ble_eq_true rfl, Nat.le_of_ble_eq_true rfl⟩ (by unfold V_greet; rw [if_neg (fun e => by rw [c19] at e; cases e.2)]) ⟨hMR, fr.rf⟩
