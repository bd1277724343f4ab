theorem cd_gcd : ∀ (k a b f : Nat), b < 2 ^ k → 2 * k + 1 ≤ f → cdN f a b = Nat.gcd a b
  | 0, a, b, f, hb, hf => by
    have hb : b = 0 := by omega
    subst hb
    obtain ⟨f, rfl⟩ : ∃ q, f = q + 1 := ⟨f - 1, by omega⟩
    unfold cdN
    rw [if_pos rfl, Nat.gcd_zero_right]
  | k + 1, a, b, f, hb, hf => by
    obtain ⟨f, rfl⟩ : ∃ q, f = q + 1 + 1 := ⟨f - 2, by omega⟩
    by_cases c : b = 0
    · subst c
      unfold cdN
      rw [if_pos rfl, Nat.gcd_zero_right]
    · unfold cdN
      rw [if_neg c]
      have hg : Nat.gcd a b = Nat.gcd b (a % b) := by rw [Nat.gcd_comm a b, Nat.gcd_rec b a, Nat.gcd_comm]
      rw [hg]
      by_cases c2 : a % b = 0
      · rw [c2]
        unfold cdN
        rw [if_pos rfl, Nat.gcd_zero_right]
      · unfold cdN
        rw [if_neg c2]
        have hg2 : Nat.gcd b (a % b) = Nat.gcd (a % b) (b % (a % b)) := by rw [Nat.gcd_comm b (a % b), Nat.gcd_rec (a % b) b, Nat.gcd_comm]
        rw [hg2]
        have h1 := Nat.mod_lt a (show 0 < b by omega)
        have h2 := Nat.mod_lt b (show 0 < a % b by omega)
        have h3 : b % (a % b) ≤ b - a % b := by
          rw [Nat.mod_eq_sub_mod (Nat.le_of_lt h1)]
          exact Nat.mod_le _ _
        have h4 : 2 ^ (k + 1) = 2 * 2 ^ k := by rw [Nat.pow_succ]; omega
        exact cd_gcd k _ _ f (by omega) (by omega)
theorem m_weightOf (g : Gx) (n : Nat) (w : Wd) {t : Nat → Nat} {len pl : Nat} {h : Hs} {a : Ms} {kn : Nat} {k1 k2 : Ms} {A : Nat → Nat → Nat} (hM : MO w A len pl kn) (hRl : Rl A t len h a kn k1 k2) (hB : Bd h a) (hBk : Bk kn k1 k2) (hSd : Sd A h.2.2.2.1 a.1 a.2.1 a.2.2.1 h.2.2.2.2.2.2.2.2.1) {i : Nat} (hi : i < h.2.2.2.1) : CT g yX7_weightOf cX7_weightOf 5 (some .long) rm_X7_weightOf n n w [.ref 59, .int (nI i)] (Rv (.long (lN (wtN h a i))) w) := by
  obtain ⟨⟨hp1, hp8⟩, ⟨hb1, hb12, hv20, hmi9⟩, hK3, hM10, hS5, hM1, hX99, hR9, hwo5, hsh1, hbe9, hhd9, hhn12⟩ := id hB
  obtain ⟨hln, hkn2, htx, hRH, hRN, hRE, hk1r, hk2r⟩ := id hRl
  obtain ⟨rp, rX, rw_, rb, rv, rm_⟩ := id hRH
  refine CT.start [some (.ref 59), some (.int (nI i)), none, none, none] (by decide +kernel) rfl (Nat.le_of_ble_eq_true rfl) (fun x C hnm => ?_)
  refine ww_aload0 C dX7_weightOf_0 ?_
  refine ww_getf C fl_X7_64 hM.1 rfl dX7_weightOf_1 ?_
  refine ww_iload1 C dX7_weightOf_4 ?_
  refine ww_ialdN C hM.a18 (by omega) dX7_weightOf_5 (kk := ?_)
  rw [(hSd i hi).1]
  refine ww_aload0 C dX7_weightOf_6 ?_
  refine ww_getf C fl_X7_52 hM.1 rfl dX7_weightOf_7 ?_
  refine ww_iconst C (v := nI 0) dX7_weightOf_10 (by decide) ?_
  refine ww_ialdN C hM.a14 (by decide) dX7_weightOf_11 (kk := ?_)
  rw [hRE.1]
  refine ww_icmpeqN C (by have := longN_le (K := a.1) (hM10 i); omega) (tgt := 17) dX7_weightOf_12 (by decide) (fun c12 => ?_) (fun c12 => ?_)
  · skip
    refine ww_aload0 C dX7_weightOf_17 ?_
    refine ww_getf C fl_X7_28 hM.1 rfl dX7_weightOf_18 ?_
    refine ww_iload1 C dX7_weightOf_21 ?_
    refine ww_ialdN C hM.a6 (by omega) dX7_weightOf_22 (kk := ?_)
    rw [(rX i hi).2]
    refine ww_iconst C (v := nI 1) dX7_weightOf_23 (by decide) ?_
    refine ww_iaddN C dX7_weightOf_24 ?_
    refine ww_i2lN C (by have := hR9 i; omega) dX7_weightOf_25 ?_
    refine ww_lstore2 C dX7_weightOf_26 (by decide) rfl ?_
    refine ww_iconst C (v := nI 0) dX7_weightOf_27 (by decide) ?_
    refine ww_istore4 C dX7_weightOf_28 (by decide) rfl ?_
    have lp30 : ∀ (m : Nat) (z pz : Nat), z ≤ longN a.1 a.2.1 i → longN a.1 a.2.1 i < z + m → pz = ((h.2.2.2.2.2.1 i + 1) * prodN (fun q => if a.2.2.2.1 q = 9 then 10 else if a.2.2.2.1 q = saidN a.2.1 a.2.2.1 i q then 10 - h.2.2.2.2.2.2.2.2.2.2.2 else h.2.2.2.2.2.2.2.2.2.2.2) z) → WW g x 5 0 0 n w 30 [some (.ref 59), some (.int (nI i)), some (.long (lN pz)), none, some (.int (nI z))] [] := by
      intro m
      induction m with
      | zero =>
        intro z pz hz hm hpz
        exact absurd hm (by omega)
      | succ m ih30 =>
        intro z pz hz hm hpz
        subst hpz
        refine ww_iload4 C dX7_weightOf_30 ?_
        refine ww_aload0 C dX7_weightOf_32 ?_
        refine ww_getf C fl_X7_64 hM.1 rfl dX7_weightOf_33 ?_
        refine ww_iload1 C dX7_weightOf_36 ?_
        refine ww_ialdN C hM.a18 (by omega) dX7_weightOf_37 (kk := ?_)
        rw [(hSd i hi).1]
        refine ww_icmpgeN C (by have := longN_le (K := a.1) (hM10 i); omega) (tgt := 110) dX7_weightOf_38 (by decide) (fun c38 => ?_) (fun c38 => ?_)
        · skip
          refine ww_lload2 C dX7_weightOf_110 ?_
          exact ww_rl C dX7_weightOf_111 rfl ⟨Nat.le_of_ble_eq_true rfl, Nat.le_of_ble_eq_true rfl⟩ (by unfold wtN likN; rw [if_pos c12, Nat.mul_comm]; have ez : z = a.2.2.2.2 := (by omega); rw [ez]) rfl
        · skip
          refine ww_lload2 C dX7_weightOf_41 ?_
          have jn102 : ∀ (e : Nat), e = (if a.2.2.2.1 z = 9 then 10 else if a.2.2.2.1 z = saidN a.2.1 a.2.2.1 i z then 10 - h.2.2.2.2.2.2.2.2.2.2.2 else h.2.2.2.2.2.2.2.2.2.2.2) → WW g x 5 0 0 n w 102 [some (.ref 59), some (.int (nI i)), some (.long (lN ((h.2.2.2.2.2.1 i + 1) * prodN (fun q => if a.2.2.2.1 q = 9 then 10 else if a.2.2.2.1 q = saidN a.2.1 a.2.2.1 i q then 10 - h.2.2.2.2.2.2.2.2.2.2.2 else h.2.2.2.2.2.2.2.2.2.2.2) z))), none, some (.int (nI z))] [.long (lN e), .long (lN ((h.2.2.2.2.2.1 i + 1) * prodN (fun q => if a.2.2.2.1 q = 9 then 10 else if a.2.2.2.1 q = saidN a.2.1 a.2.2.1 i q then 10 - h.2.2.2.2.2.2.2.2.2.2.2 else h.2.2.2.2.2.2.2.2.2.2.2) z))] := by
            intro e he
            subst he
            refine ww_lmulN C dX7_weightOf_102 ?_
            rw [show ((h.2.2.2.2.2.1 i + 1) * prodN (fun q => if a.2.2.2.1 q = 9 then 10 else if a.2.2.2.1 q = saidN a.2.1 a.2.2.1 i q then 10 - h.2.2.2.2.2.2.2.2.2.2.2 else h.2.2.2.2.2.2.2.2.2.2.2) z) * (if a.2.2.2.1 z = 9 then 10 else if a.2.2.2.1 z = saidN a.2.1 a.2.2.1 i z then 10 - h.2.2.2.2.2.2.2.2.2.2.2 else h.2.2.2.2.2.2.2.2.2.2.2) = (h.2.2.2.2.2.1 i + 1) * prodN (fun q => if a.2.2.2.1 q = 9 then 10 else if a.2.2.2.1 q = saidN a.2.1 a.2.2.1 i q then 10 - h.2.2.2.2.2.2.2.2.2.2.2 else h.2.2.2.2.2.2.2.2.2.2.2) (z + 1) by show _ = (h.2.2.2.2.2.1 i + 1) * (prodN (fun q => if a.2.2.2.1 q = 9 then 10 else if a.2.2.2.1 q = saidN a.2.1 a.2.2.1 i q then 10 - h.2.2.2.2.2.2.2.2.2.2.2 else h.2.2.2.2.2.2.2.2.2.2.2) z * (if a.2.2.2.1 z = 9 then 10 else if a.2.2.2.1 z = saidN a.2.1 a.2.2.1 i z then 10 - h.2.2.2.2.2.2.2.2.2.2.2 else h.2.2.2.2.2.2.2.2.2.2.2)); rw [Nat.mul_assoc]]
            refine ww_lstore2 C dX7_weightOf_103 (by decide) rfl ?_
            refine ww_iincN4 C dX7_weightOf_104 (by decide) rfl ?_
            refine ww_goto C (tgt := 30) dX7_weightOf_107 (by decide) ?_
            exact ih30 (z + 1) _ (by omega) (by omega) rfl
          refine ww_aload0 C dX7_weightOf_42 ?_
          refine ww_getf C fl_X7_55 hM.1 rfl dX7_weightOf_43 ?_
          refine ww_iload4 C dX7_weightOf_46 ?_
          refine ww_ialdN C hM.a15 (by omega) dX7_weightOf_48 (kk := ?_)
          rw [show A 15 z = a.2.2.2.1 z by (have := hRE.2 z (by omega); rw [show 12 * 0 + z = z by omega] at this; exact this)]
          refine ww_bipush C (v := nI 9) dX7_weightOf_49 (by decide) ?_
          refine ww_icmpneN C (by have := hhd9 z; omega) (tgt := 60) dX7_weightOf_51 (by decide) (fun c51 => ?_) (fun c51 => ?_)
          · skip
            refine ww_aload0 C dX7_weightOf_60 ?_
            refine ww_getf C fl_X7_55 hM.1 rfl dX7_weightOf_61 ?_
            refine ww_iload4 C dX7_weightOf_64 ?_
            refine ww_ialdN C hM.a15 (by omega) dX7_weightOf_66 (kk := ?_)
            rw [show A 15 z = a.2.2.2.1 z by (have := hRE.2 z (by omega); rw [show 12 * 0 + z = z by omega] at this; exact this)]
            refine ww_aload0 C dX7_weightOf_67 ?_
            refine ww_getf C fl_X7_61 hM.1 rfl dX7_weightOf_68 ?_
            refine ww_bipush C (v := nI 20) dX7_weightOf_71 (by decide) ?_
            refine ww_iload1 C dX7_weightOf_73 ?_
            refine ww_imulN C dX7_weightOf_74 ?_
            refine ww_iload4 C dX7_weightOf_75 ?_
            refine ww_iaddN C dX7_weightOf_77 ?_
            refine ww_ialdN C hM.a17 (by omega) dX7_weightOf_78 (kk := ?_)
            rw [(hSd i hi).2.2 z c38]
            refine ww_icmpneN C (by have := hhd9 z; have := saidN_le (M := a.2.1) hS5 i z; omega) (tgt := 95) dX7_weightOf_79 (by decide) (fun c79 => ?_) (fun c79 => ?_)
            · skip
              refine ww_aload0 C dX7_weightOf_95 ?_
              refine ww_getf C fl_X7_40 hM.1 rfl dX7_weightOf_96 ?_
              refine ww_iconst C (v := nI 2) dX7_weightOf_99 (by decide) ?_
              refine ww_ialdN C hM.a10 (by decide) dX7_weightOf_100 (kk := ?_)
              rw [rm_]
              refine ww_i2lN C (by omega) dX7_weightOf_101 ?_
              exact jn102 _ (by rw [if_neg c51, if_neg c79])
            · skip
              refine ww_bipush C (v := nI 10) dX7_weightOf_82 (by decide) ?_
              refine ww_aload0 C dX7_weightOf_84 ?_
              refine ww_getf C fl_X7_40 hM.1 rfl dX7_weightOf_85 ?_
              refine ww_iconst C (v := nI 2) dX7_weightOf_88 (by decide) ?_
              refine ww_ialdN C hM.a10 (by decide) dX7_weightOf_89 (kk := ?_)
              rw [rm_]
              refine ww_isubN C (by omega) dX7_weightOf_90 ?_
              refine ww_i2lN C (by omega) dX7_weightOf_91 ?_
              refine ww_goto C (tgt := 102) dX7_weightOf_92 (by decide) ?_
              exact jn102 _ (by rw [if_neg c51, if_pos c79])
          · skip
            refine ww_ldc2 C (v := 10) kc_X7_205 dX7_weightOf_54 ?_
            refine ww_topl (show (10 : Int64) = lN 10 by decide) ?_
            refine ww_goto C (tgt := 102) dX7_weightOf_57 (by decide) ?_
            exact jn102 10 (by rw [if_pos c51])
    exact lp30 (longN a.1 a.2.1 i + 1) 0 _ (by omega) (by omega) (by show _ = (h.2.2.2.2.2.1 i + 1) * 1; rw [Nat.mul_one])
  · skip
    refine ww_lconst C (v := lN 0) dX7_weightOf_15 (by decide) ?_
    exact ww_rl C dX7_weightOf_16 rfl ⟨Nat.le_of_ble_eq_true rfl, Nat.le_of_ble_eq_true rfl⟩ (by unfold wtN likN; rw [if_neg c12, Nat.zero_mul]) rfl
theorem mt_v (f : Nat → Nat) : ∀ n, (mtN f n).2 = (match (mtN f n).1 with | none => 0 | some k => f k) ∧ ∀ k, (mtN f n).1 = some k → k < n
  | 0 => ⟨rfl, fun k e => by cases e⟩
  | n + 1 => by
    have ih := mt_v f n
    unfold mtN
    split
    · exact ⟨rfl, fun k e => by cases e; exact Nat.lt_succ_self n⟩
    · exact ⟨ih.1, fun k e => Nat.lt_succ_of_lt (ih.2 k e)⟩
theorem mt_y {f : Nat → Nat} {n : Nat} (h : (mtN f n).2 < f n) : mtN f (n + 1) = (some n, f n) := by
  conv => lhs; unfold mtN
  rw [if_pos h]
theorem mt_n {f : Nat → Nat} {n : Nat} (h : f n ≤ (mtN f n).2) : mtN f (n + 1) = mtN f n := by
  conv => lhs; unfold mtN
  rw [if_neg (by omega)]
theorem m_meant (g : Gx) (n : Nat) (w : Wd) {t : Nat → Nat} {len : Nat} {h : Hs} {a : Ms} {kn : Nat} {k1 k2 : Ms} (hMR : MR w t len h a kn k1 k2) (hB : Bd h a) (hBk : Bk kn k1 k2) : CT g yX7_meant cX7_meant 4 (some .int) rm_X7_meant n n w [.ref 59] (Rq (.int (oI (mtN (wtN h a) h.2.2.2.1).1)) (fun w1 => MR w1 t len h a kn k1 k2 ∧ fr w w1 59 83)) := by
  obtain ⟨A, pl, hM, hRl⟩ := id hMR
  have hf : fr w w 59 83 := fr.rf
  obtain ⟨⟨hp1, hp8⟩, ⟨hb1, hb12, hv20, hmi9⟩, hK3, hM10, hS5, hM1, hX99, hR9, hwo5, hsh1, hbe9, hhd9, hhn12⟩ := id hB
  obtain ⟨hln, hkn2, htx, hRH, hRN, hRE, hk1r, hk2r⟩ := id hRl
  obtain ⟨rp, rX, rw_, rb, rv, rm_⟩ := id hRH
  refine CT.start [some (.ref 59), none, none, none] (by decide +kernel) rfl (Nat.le_of_ble_eq_true rfl) (fun x C hnm => ?_)
  refine ww_aload0 C dX7_meant_0 ?_
  refine ww_cV00q C hM.1 rfl (m_sayNow g n w hM hRl hB hBk) kV_X7_145 ⟨Nat.le_of_ble_eq_true rfl, Nat.le_of_ble_eq_true rfl⟩ ⟨rfl, rfl⟩ ⟨Nat.le_of_ble_eq_true rfl, Nat.le_of_ble_eq_true rfl⟩ (Nat.le_of_ble_eq_true rfl) dX7_meant_1 (fun w1 hw1 => ?_)
  obtain ⟨B, hM, hf1, hBo, hRl, hSd⟩ := hw1
  have hf := hf.tr hf1
  refine ww_bipush C (v := -4) dX7_meant_4 (by decide) ?_
  refine ww_istore1 C dX7_meant_6 (by decide) rfl ?_
  refine ww_iconst C (v := nI 0) dX7_meant_7 (by decide) ?_
  refine ww_istore2 C dX7_meant_8 (by decide) rfl ?_
  have lp9 : ∀ (m : Nat) (i : Nat) (o : Option Nat) (z3 : Option Value), i ≤ h.2.2.2.1 → h.2.2.2.1 < i + m → o = (mtN (wtN h a) i).1 → WW g x 4 0 0 n w1 9 [some (.ref 59), some (.int (oI o)), some (.int (nI i)), z3] [] := by
    intro m
    induction m with
    | zero =>
      intro i o z3 hi0 hm ho
      exact absurd hm (by omega)
    | succ m ih9 =>
      intro i o z3 hi0 hm ho
      refine ww_iload2 C dX7_meant_9 ?_
      refine ww_aload0 C dX7_meant_10 ?_
      refine ww_getf C fl_X7_13 hM.1 rfl dX7_meant_11 ?_
      refine ww_iconst C (v := nI 0) dX7_meant_14 (by decide) ?_
      refine ww_ialdN C hM.a1 (by decide) dX7_meant_15 (kk := ?_)
      rw [show B 1 0 = h.2.2.2.1 from (congrFun (hBo 1 (by decide) (by decide) (by decide)) 0).trans rp]
      refine ww_icmpgeN C (by omega) (tgt := 63) dX7_meant_16 (by decide) (fun c16 => ?_) (fun c16 => ?_)
      · skip
        refine ww_iload1 C dX7_meant_63 ?_
        exact ww_riq C dX7_meant_64 rfl ⟨Nat.le_of_ble_eq_true rfl, Nat.le_of_ble_eq_true rfl⟩ (by have ei : i = h.2.2.2.1 := (by omega); rw [ho, ei]) ⟨⟨B, pl, hM, hRl⟩, hf⟩
      · skip
        refine ww_aload0 C dX7_meant_19 ?_
        refine ww_iload2 C dX7_meant_20 ?_
        refine ww_cV1v C hM.1 rfl (m_weightOf g n w1 hM hRl hB hBk hSd (i := i) c16) kV_X7_207 ⟨Nat.le_of_ble_eq_true rfl, Nat.le_of_ble_eq_true rfl⟩ ⟨rfl, rfl⟩ ⟨Nat.le_of_ble_eq_true rfl, Nat.le_of_ble_eq_true rfl⟩ (Nat.le_of_ble_eq_true rfl) dX7_meant_21 ?_
        refine ww_iload1 C dX7_meant_24 ?_
        rcases qo : o with _ | k9
        · skip
          have hm2 : (mtN (wtN h a) i).2 = 0 := by have := (mt_v (wtN h a) i).1; rw [← ho, qo] at this; exact this
          refine ww_ifge C (tgt := 32) dX7_meant_25 (by decide) (fun c25 => ?_) (fun c25 => ?_)
          · skip
            exact absurd c25 (by decide)
          · skip
            refine ww_lconst C (v := lN 0) dX7_meant_28 (by decide) ?_
            refine ww_goto C (tgt := 37) dX7_meant_29 (by decide) ?_
            refine ww_lcmp C dX7_meant_37 ?_
            refine ww_ifleC C (by have := wtN_le (h := h) (a := a) hhn12 hmi9 hR9 i; omega) (tgt := 45) dX7_meant_38 (by decide) (fun c38 => ?_) (fun c38 => ?_)
            · skip
              refine ww_iconst C (v := nI 0) dX7_meant_45 (by decide) ?_
              refine ww_istore3 C dX7_meant_46 (by decide) rfl ?_
              refine ww_iload3 C dX7_meant_47 ?_
              refine ww_ifeqN C (by omega) (tgt := 55) dX7_meant_48 (by decide) (fun c48 => ?_) (fun c48 => ?_)
              · skip
                refine ww_iload1 C dX7_meant_55 ?_
                refine ww_istore1 C dX7_meant_56 (by decide) rfl ?_
                refine ww_iincN2 C dX7_meant_57 (by decide) rfl ?_
                refine ww_goto C (tgt := 9) dX7_meant_60 (by decide) ?_
                exact ih9 (i + 1) none _ (by omega) (by omega) (by rw [mt_n (by rw [hm2]; exact c38)]; exact (qo.symm.trans ho))
              · skip
                exact absurd rfl c48
            · skip
              refine ww_iconst C (v := nI 1) dX7_meant_41 (by decide) ?_
              refine ww_goto C (tgt := 46) dX7_meant_42 (by decide) ?_
              refine ww_istore3 C dX7_meant_46 (by decide) rfl ?_
              refine ww_iload3 C dX7_meant_47 ?_
              refine ww_ifeqN C (by omega) (tgt := 55) dX7_meant_48 (by decide) (fun c48 => ?_) (fun c48 => ?_)
              · skip
                cases c48
              · skip
                refine ww_iload2 C dX7_meant_51 ?_
                refine ww_goto C (tgt := 56) dX7_meant_52 (by decide) ?_
                refine ww_istore1 C dX7_meant_56 (by decide) rfl ?_
                refine ww_iincN2 C dX7_meant_57 (by decide) rfl ?_
                refine ww_goto C (tgt := 9) dX7_meant_60 (by decide) ?_
                exact ih9 (i + 1) (some i) _ (by omega) (by omega) (by rw [mt_y (by rw [hm2]; exact c38)])
        · skip
          have hk9 := (mt_v (wtN h a) i).2 k9 (ho.symm.trans qo)
          have hm2 : (mtN (wtN h a) i).2 = wtN h a k9 := by have := (mt_v (wtN h a) i).1; rw [← ho, qo] at this; exact this
          refine ww_topi (show oI (some k9) = nI k9 from rfl) ?_
          refine ww_ifge C (tgt := 32) dX7_meant_25 (by decide) (fun c25 => ?_) (fun c25 => ?_)
          · skip
            refine ww_aload0 C dX7_meant_32 ?_
            refine ww_iload1 C dX7_meant_33 ?_
            refine ww_topi (show oI (some k9) = nI k9 from rfl) ?_
            refine ww_cV1v C hM.1 rfl (m_weightOf g n w1 hM hRl hB hBk hSd (i := k9) (by omega)) kV_X7_207 ⟨Nat.le_of_ble_eq_true rfl, Nat.le_of_ble_eq_true rfl⟩ ⟨rfl, rfl⟩ ⟨Nat.le_of_ble_eq_true rfl, Nat.le_of_ble_eq_true rfl⟩ (Nat.le_of_ble_eq_true rfl) dX7_meant_34 ?_
            refine ww_lcmp C dX7_meant_37 ?_
            refine ww_ifleC C (by have := wtN_le (h := h) (a := a) hhn12 hmi9 hR9 i; have := wtN_le (h := h) (a := a) hhn12 hmi9 hR9 k9; omega) (tgt := 45) dX7_meant_38 (by decide) (fun c38 => ?_) (fun c38 => ?_)
            · skip
              refine ww_iconst C (v := nI 0) dX7_meant_45 (by decide) ?_
              refine ww_istore3 C dX7_meant_46 (by decide) rfl ?_
              refine ww_iload3 C dX7_meant_47 ?_
              refine ww_ifeqN C (by omega) (tgt := 55) dX7_meant_48 (by decide) (fun c48 => ?_) (fun c48 => ?_)
              · skip
                refine ww_iload1 C dX7_meant_55 ?_
                refine ww_istore1 C dX7_meant_56 (by decide) rfl ?_
                refine ww_iincN2 C dX7_meant_57 (by decide) rfl ?_
                refine ww_goto C (tgt := 9) dX7_meant_60 (by decide) ?_
                exact ih9 (i + 1) (some k9) _ (by omega) (by omega) (by rw [mt_n (by rw [hm2]; exact c38)]; exact (qo.symm.trans ho))
              · skip
                exact absurd rfl c48
            · skip
              refine ww_iconst C (v := nI 1) dX7_meant_41 (by decide) ?_
              refine ww_goto C (tgt := 46) dX7_meant_42 (by decide) ?_
              refine ww_istore3 C dX7_meant_46 (by decide) rfl ?_
              refine ww_iload3 C dX7_meant_47 ?_
              refine ww_ifeqN C (by omega) (tgt := 55) dX7_meant_48 (by decide) (fun c48 => ?_) (fun c48 => ?_)
              · skip
                cases c48
              · skip
                refine ww_iload2 C dX7_meant_51 ?_
                refine ww_goto C (tgt := 56) dX7_meant_52 (by decide) ?_
                refine ww_istore1 C dX7_meant_56 (by decide) rfl ?_
                refine ww_iincN2 C dX7_meant_57 (by decide) rfl ?_
                refine ww_goto C (tgt := 9) dX7_meant_60 (by decide) ?_
                exact ih9 (i + 1) (some i) _ (by omega) (by omega) (by rw [mt_y (by rw [hm2]; exact c38)])
          · skip
            exact absurd (nI_ge0 (by omega)) c25
  exact lp9 (h.2.2.2.1 + 1) 0 none _ (by omega) (by omega) rfl
theorem m_odds (g : Gx) (n : Nat) (w : Wd) {t : Nat → Nat} {len : Nat} {h : Hs} {a : Ms} {kn : Nat} {k1 k2 : Ms} (hMR : MR w t len h a kn k1 k2) (hB : Bd h a) (hBk : Bk kn k1 k2) (i part : Int32) : CT g yX7_odds cX7_odds 11 (some .long) rm_X7_odds n n w [.ref 59, .int i, .int part] (Rq (.long (V_odds h a i part)) (fun w1 => MR w1 t len h a kn k1 k2 ∧ fr w w1 59 83)) := by
  obtain ⟨A, pl, hM, hRl⟩ := id hMR
  have hf : fr w w 59 83 := fr.rf
  obtain ⟨⟨hp1, hp8⟩, ⟨hb1, hb12, hv20, hmi9⟩, hK3, hM10, hS5, hM1, hX99, hR9, hwo5, hsh1, hbe9, hhd9, hhn12⟩ := id hB
  obtain ⟨hln, hkn2, htx, hRH, hRN, hRE, hk1r, hk2r⟩ := id hRl
  obtain ⟨rp, rX, rw_, rb, rv, rm_⟩ := id hRH
  refine CT.start [some (.ref 59), some (.int i), some (.int part), none, none, none, none, none, none, none, none] (by decide +kernel) rfl (Nat.le_of_ble_eq_true rfl) (fun x C hnm => ?_)
  refine ww_aload0 C dX7_odds_0 ?_
  refine ww_iload1 C dX7_odds_1 ?_
  refine ww_cV1v C hM.1 rfl (m_isPerson g n w hM _ rp hp8) kV_X7_139 ⟨Nat.le_of_ble_eq_true rfl, Nat.le_of_ble_eq_true rfl⟩ ⟨rfl, rfl⟩ ⟨Nat.le_of_ble_eq_true rfl, Nat.le_of_ble_eq_true rfl⟩ (Nat.le_of_ble_eq_true rfl) dX7_odds_2 ?_
  refine ww_ifeqB C (tgt := 18) dX7_odds_5 (by decide) (fun c5 => ?_) (fun c5 => ?_)
  · skip
    refine ww_ldc2 C (v := -1) kc_X7_190 dX7_odds_18 ?_
    exact ww_rlq C dX7_odds_21 rfl ⟨Nat.le_of_ble_eq_true rfl, Nat.le_of_ble_eq_true rfl⟩ (by unfold V_odds; rw [if_neg (fun e => by rw [c5] at e; cases e.1)]) ⟨hMR, fr.rf⟩
  · skip
    obtain ⟨j, hj, rfl⟩ := hb_of c5
    have hcj : (nI j).toNatClampNeg = j := cl_nI (by omega)
    refine ww_iload2 C dX7_odds_8 ?_
    refine ww_i2l C dX7_odds_9 ?_
    refine ww_lconst C (v := lN 0) dX7_odds_10 (by decide) ?_
    refine ww_lconst C (v := lN 1) dX7_odds_11 (by decide) ?_
    refine ww_cS3v C (c_inR g n w _ _ _) kS_X7_88 ⟨Nat.le_of_ble_eq_true rfl, Nat.le_of_ble_eq_true rfl⟩ ⟨rfl, rfl⟩ ⟨Nat.le_of_ble_eq_true rfl, Nat.le_of_ble_eq_true rfl⟩ (Nat.le_of_ble_eq_true rfl) dX7_odds_12 ?_
    refine ww_topi (show bz _ = bz (wb (nI 0) (nI 1) part) by rw [in_W (by decide) (by decide)]) ?_
    refine ww_ifneB C (tgt := 22) dX7_odds_15 (by decide) (fun c15 => ?_) (fun c15 => ?_)
    · skip
      obtain ⟨y, hy0, hy1, rfl⟩ := wb_of (by decide) (by decide) c15
      have hwb : ∀ i, wtN h a i ≤ 10000000000000 := fun i => wtN_le hhn12 hmi9 hR9 i
      have hsb : ∀ n, sumN (wtN h a)  n ≤ n * 10000000000000 := fun n => sumN_le hwb n
      refine ww_aload0 C dX7_odds_22 ?_
      refine ww_cV00q C hM.1 rfl (m_sayNow g n w hM hRl hB hBk) kV_X7_145 ⟨Nat.le_of_ble_eq_true rfl, Nat.le_of_ble_eq_true rfl⟩ ⟨rfl, rfl⟩ ⟨Nat.le_of_ble_eq_true rfl, Nat.le_of_ble_eq_true rfl⟩ (Nat.le_of_ble_eq_true rfl) dX7_odds_23 (fun w1 hw1 => ?_)
      obtain ⟨B, hM, hf1, hBo, hRl, hSd⟩ := hw1
      have hf := hf.tr hf1
      refine ww_lconst C (v := lN 0) dX7_odds_26 (by decide) ?_
      refine ww_lstore3 C dX7_odds_27 (by decide) rfl ?_
      refine ww_iconst C (v := nI 0) dX7_odds_28 (by decide) ?_
      refine ww_istore5 C dX7_odds_29 (by decide) rfl ?_
      have lp31 : ∀ (m : Nat) (i : Nat), i ≤ h.2.2.2.1 → h.2.2.2.1 < i + m → WW g x 11 0 0 n w1 31 [some (.ref 59), some (.int (nI j)), some (.int (nI y)), some (.long (lN (sumN (wtN h a)  i))), none, some (.int (nI i)), none, none, none, none, none] [] := by
        intro m
        induction m with
        | zero =>
          intro i hi0 hm
          exact absurd hm (by omega)
        | succ m ih31 =>
          intro i hi0 hm
          refine ww_iload5 C dX7_odds_31 ?_
          refine ww_aload0 C dX7_odds_33 ?_
          refine ww_getf C fl_X7_13 hM.1 rfl dX7_odds_34 ?_
          refine ww_iconst C (v := nI 0) dX7_odds_37 (by decide) ?_
          refine ww_ialdN C hM.a1 (by decide) dX7_odds_38 (kk := ?_)
          rw [show B 1 0 = h.2.2.2.1 from (congrFun (hBo 1 (by decide) (by decide) (by decide)) 0).trans rp]
          refine ww_icmpgeN C (by omega) (tgt := 57) dX7_odds_39 (by decide) (fun c39 => ?_) (fun c39 => ?_)
          · skip
            have ei : i = h.2.2.2.1 := by omega
            rw [ei]
            refine ww_lload3 C dX7_odds_57 ?_
            refine ww_lconst C (v := lN 0) dX7_odds_58 (by decide) ?_
            refine ww_lcmp C dX7_odds_59 ?_
            refine ww_ifneC C (by have := hsb h.2.2.2.1; omega) (tgt := 67) dX7_odds_60 (by decide) (fun c60 => ?_) (fun c60 => ?_)
            · skip
              refine ww_aload0 C dX7_odds_67 ?_
              refine ww_iload1 C dX7_odds_68 ?_
              refine ww_cV1v C hM.1 rfl (m_weightOf g n w1 hM hRl hB hBk hSd (i := j) hj) kV_X7_207 ⟨Nat.le_of_ble_eq_true rfl, Nat.le_of_ble_eq_true rfl⟩ ⟨rfl, rfl⟩ ⟨Nat.le_of_ble_eq_true rfl, Nat.le_of_ble_eq_true rfl⟩ (Nat.le_of_ble_eq_true rfl) dX7_odds_69 ?_
              refine ww_lstore5 C dX7_odds_72 (by decide) rfl ?_
              refine ww_lload3 C dX7_odds_74 ?_
              refine ww_lstore7 C dX7_odds_75 (by decide) rfl ?_
              have lp77 : ∀ (m : Nat) (x9 y9 : Nat) (z9 : Option Value), x9 < 9223372036854775808 → y9 < m → y9 < 9223372036854775808 → Nat.gcd x9 y9 = Nat.gcd (wtN h a j) (sumN (wtN h a)  h.2.2.2.1) → WW g x 11 0 0 n w1 77 [some (.ref 59), some (.int (nI j)), some (.int (nI y)), some (.long (lN (sumN (wtN h a)  h.2.2.2.1))), none, some (.long (lN x9)), none, some (.long (lN y9)), none, z9, none] [] := by
                intro m
                induction m with
                | zero =>
                  intro x9 y9 z9 hx hm hy hg
                  exact absurd hm (by omega)
                | succ m ih77 =>
                  intro x9 y9 z9 hx hm hy hg
                  refine ww_lload7 C dX7_odds_77 ?_
                  refine ww_lconst C (v := lN 0) dX7_odds_79 (by decide) ?_
                  refine ww_lcmp C dX7_odds_80 ?_
                  refine ww_ifeqC C (by omega) (tgt := 102) dX7_odds_81 (by decide) (fun c81 => ?_) (fun c81 => ?_)
                  · skip
                    rw [c81, Nat.gcd_zero_right] at hg
                    have hcd : cdN 100 (sumN (wtN h a)  h.2.2.2.1) (wtN h a j) = x9 := by rw [cd_gcd 44 _ _ 100 (by have := hwb j; omega) (by omega), Nat.gcd_comm, hg]
                    have hx1 : 1 ≤ x9 := by
                      rw [hg]
                      exact Nat.gcd_pos_of_pos_right _ (by omega)
                    refine ww_iload2 C dX7_odds_102 ?_
                    refine ww_ifneN C (by omega) (tgt := 117) dX7_odds_103 (by decide) (fun c103 => ?_) (fun c103 => ?_)
                    · skip
                      refine ww_lload3 C dX7_odds_117 ?_
                      refine ww_lload5 C dX7_odds_118 ?_
                      refine ww_ldivN C (by have := hsb h.2.2.2.1; omega) dX7_odds_120 ?_
                      exact ww_rlq C dX7_odds_121 rfl ⟨Nat.le_of_ble_eq_true rfl, Nat.le_of_ble_eq_true rfl⟩ (by unfold V_odds; rw [if_pos ⟨c5, c15⟩, hcj, hcd, if_neg (by omega), if_neg (fun e => c103 ((nI_eq (by omega) (by decide)).mp e))]) ⟨⟨B, pl, hM, hRl⟩, hf⟩
                    · skip
                      refine ww_aload0 C dX7_odds_106 ?_
                      refine ww_iload1 C dX7_odds_107 ?_
                      refine ww_cV1v C hM.1 rfl (m_weightOf g n w1 hM hRl hB hBk hSd (i := j) hj) kV_X7_207 ⟨Nat.le_of_ble_eq_true rfl, Nat.le_of_ble_eq_true rfl⟩ ⟨rfl, rfl⟩ ⟨Nat.le_of_ble_eq_true rfl, Nat.le_of_ble_eq_true rfl⟩ (Nat.le_of_ble_eq_true rfl) dX7_odds_108 ?_
                      refine ww_lload5 C dX7_odds_111 ?_
                      refine ww_ldivN C (by have := hwb j; omega) dX7_odds_113 ?_
                      refine ww_goto C (tgt := 121) dX7_odds_114 (by decide) ?_
                      exact ww_rlq C dX7_odds_121 rfl ⟨Nat.le_of_ble_eq_true rfl, Nat.le_of_ble_eq_true rfl⟩ (by unfold V_odds; rw [if_pos ⟨c5, c15⟩, hcj, hcd, if_neg (by omega), if_pos (by rw [c103])]) ⟨⟨B, pl, hM, hRl⟩, hf⟩
                  · skip
                    refine ww_lload5 C dX7_odds_84 ?_
                    refine ww_lload7 C dX7_odds_86 ?_
                    refine ww_lremN C (by omega) dX7_odds_88 ?_
                    refine ww_lstore9 C dX7_odds_89 (by decide) rfl ?_
                    refine ww_lload7 C dX7_odds_91 ?_
                    refine ww_lstore5 C dX7_odds_93 (by decide) rfl ?_
                    refine ww_lload9 C dX7_odds_95 ?_
                    refine ww_lstore7 C dX7_odds_97 (by decide) rfl ?_
                    refine ww_goto C (tgt := 77) dX7_odds_99 (by decide) ?_
                    exact ih77 y9 (x9 % y9) _ (by omega) (by have := Nat.mod_lt x9 (show 0 < y9 by omega); omega) (by have := Nat.mod_lt x9 (show 0 < y9 by omega); omega) (by rw [← hg, Nat.gcd_comm x9 y9, Nat.gcd_rec y9 x9, Nat.gcd_comm])
              exact lp77 (sumN (wtN h a)  h.2.2.2.1 + 1) _ _ _ (by have := hwb j; omega) (by omega) (by have := hsb h.2.2.2.1; omega) rfl
            · skip
              refine ww_ldc2 C (v := -4) kc_X7_211 dX7_odds_63 ?_
              exact ww_rlq C dX7_odds_66 rfl ⟨Nat.le_of_ble_eq_true rfl, Nat.le_of_ble_eq_true rfl⟩ (by unfold V_odds; rw [if_pos ⟨c5, c15⟩, hcj, if_pos (Or.inl (by omega))]) ⟨⟨B, pl, hM, hRl⟩, hf⟩
          · skip
            refine ww_lload3 C dX7_odds_42 ?_
            refine ww_aload0 C dX7_odds_43 ?_
            refine ww_iload5 C dX7_odds_44 ?_
            refine ww_cV1v C hM.1 rfl (m_weightOf g n w1 hM hRl hB hBk hSd (i := i) c39) kV_X7_207 ⟨Nat.le_of_ble_eq_true rfl, Nat.le_of_ble_eq_true rfl⟩ ⟨rfl, rfl⟩ ⟨Nat.le_of_ble_eq_true rfl, Nat.le_of_ble_eq_true rfl⟩ (Nat.le_of_ble_eq_true rfl) dX7_odds_46 ?_
            refine ww_laddN C dX7_odds_49 ?_
            rw [show sumN (wtN h a)  i + wtN h a i = sumN (wtN h a)  (i + 1) from rfl]
            refine ww_lstore3 C dX7_odds_50 (by decide) rfl ?_
            refine ww_iincN5 C dX7_odds_51 (by decide) rfl ?_
            refine ww_goto C (tgt := 31) dX7_odds_54 (by decide) ?_
            exact ih31 (i + 1) (by omega) (by omega)
      exact lp31 (h.2.2.2.1 + 1) 0 (by omega) (by omega)
    · skip
      refine ww_ldc2 C (v := -1) kc_X7_190 dX7_odds_18 ?_
      exact ww_rlq C dX7_odds_21 rfl ⟨Nat.le_of_ble_eq_true rfl, Nat.le_of_ble_eq_true rfl⟩ (by unfold V_odds; rw [if_neg (fun e => by rw [c15] at e; cases e.2)]) ⟨hMR, fr.rf⟩
