theorem nI_ge0 {v : Nat} (h : v < 2147483648) : (0 : Int32) ≤ nI v := by
  have := nI_leI (a := 0) (b := v) (by decide) (by omega)
  exact this.mpr (Nat.zero_le v)
theorem al_iff {K M S : Nat → Nat} {i j k : Nat} (hk : k ≤ longN K M i) : k ≤ alikeN K M S i j ↔ k ≤ longN K M j ∧ ∀ s, s < k → saidN M S i s = saidN M S j s := by
  unfold alikeN
  constructor
  · intro h
    have h1 := preN_le (fun k => decide (saidN M S i k = saidN M S j k)) (min (longN K M i) (longN K M j))
    exact ⟨by omega, fun s hs => of_decide_eq_true (preN_all (fun k => decide (saidN M S i k = saidN M S j k)) (min (longN K M i) (longN K M j)) s (by omega))⟩
  · intro h
    apply Classical.byContradiction
    intro c
    have h1 := preN_stop (fun k => decide (saidN M S i k = saidN M S j k)) (min (longN K M i) (longN K M j)) (by omega)
    have h2 := h.2 _ (Nat.lt_of_not_le c)
    exact absurd h2 (of_decide_eq_false h1)
theorem m_answers (g : Gx) (n : Nat) (w : Wd) {A : Nat → Nat → Nat} {len pl km : Nat} (hM : MO w A len pl km) {p : Nat} {K M S be : Nat → Nat} (hp : A 1 0 = p) (hp8 : p ≤ 8) (hSd : Sd A p K M S be) (hM10 : ∀ i, M i ≤ 10) {i j k : Nat} (hi : i < p) (hj : j < p) (hk : k ≤ longN K M i) (hS5 : ∀ i, S i ≤ 5) : CT g yX7_answers cX7_answers 6 (some .boolean) rm_X7_answers n n w [.ref 59, .int (nI j), .int (nI i), .int (nI k)] (Rv (.int (bz (decide (k ≤ alikeN K M S i j)))) w) := by
  have hsv : ∀ z, saidN M S j z < 2147483648 ∧ saidN M S i z < 2147483648 := fun z => ⟨Nat.lt_of_le_of_lt (saidN_le hS5 j z) (by decide), Nat.lt_of_le_of_lt (saidN_le hS5 i z) (by decide)⟩
  have hki := longN_le (K := K) (hM10 i)
  refine CT.start [some (.ref 59), some (.int (nI j)), some (.int (nI i)), some (.int (nI k)), none, none] (by decide +kernel) rfl (Nat.le_of_ble_eq_true rfl) (fun x C hnm => ?_)
  have jn15 : ∀ (e : Nat), (e = 1 ∧ k ≤ longN K M j) ∨ (e = 0 ∧ ¬ k ≤ longN K M j) → WW g x 6 0 0 n w 15 [some (.ref 59), some (.int (nI j)), some (.int (nI i)), some (.int (nI k)), none, none] [.int (nI e)] := by
    intro e he
    refine ww_istore4 C dX7_answers_15 (by decide) rfl ?_
    refine ww_iconst C (v := nI 0) dX7_answers_17 (by decide) ?_
    refine ww_istore5 C dX7_answers_18 (by decide) rfl ?_
    have lp20 : ∀ (m : Nat) (z e : Nat), z ≤ k → k < z + m → e ≤ 1 → (e = 1 ∧ k ≤ longN K M j ∧ ∀ s, s < z → saidN M S i s = saidN M S j s) ∨ (e = 0 ∧ ¬ k ≤ alikeN K M S i j) → WW g x 6 0 0 n w 20 [some (.ref 59), some (.int (nI j)), some (.int (nI i)), some (.int (nI k)), some (.int (nI e)), some (.int (nI z))] [] := by
      intro m
      induction m with
      | zero =>
        intro z e hz hm he1 he
        exact absurd hm (by omega)
      | succ m ih20 =>
        intro z e hz hm he1 he
        refine ww_iload5 C dX7_answers_20 ?_
        refine ww_iload3 C dX7_answers_22 ?_
        refine ww_icmpgeN C (by omega) (tgt := 71) dX7_answers_23 (by decide) (fun c23 => ?_) (fun c23 => ?_)
        · skip
          refine ww_iload4 C dX7_answers_71 ?_
          exact ww_rz C dX7_answers_73 rfl ⟨Nat.le_of_ble_eq_true rfl, Nat.le_of_ble_eq_true rfl⟩ (by rcases he with h | h; (rw [h.1, decide_eq_true ((al_iff hk).mpr ⟨h.2.1, fun s hs => h.2.2 s (by omega)⟩)]; rfl); (rw [h.1, decide_eq_false h.2]; rfl)) rfl
        · skip
          refine ww_iload4 C dX7_answers_26 ?_
          refine ww_ifeqN C (by omega) (tgt := 71) dX7_answers_28 (by decide) (fun c28 => ?_) (fun c28 => ?_)
          · skip
            refine ww_iload4 C dX7_answers_71 ?_
            exact ww_rz C dX7_answers_73 rfl ⟨Nat.le_of_ble_eq_true rfl, Nat.le_of_ble_eq_true rfl⟩ (by rcases he with h | h; (exact absurd c28 (by omega)); (rw [h.1, decide_eq_false h.2]; rfl)) rfl
          · skip
            obtain ⟨he9, hb1, hb2⟩ : e = 1 ∧ k ≤ longN K M j ∧ (∀ s, s < z → saidN M S i s = saidN M S j s) := he.resolve_right (fun q => c28 q.1)
            have jn63 : ∀ (e2 : Nat), (e2 = 1 ∧ saidN M S j z = saidN M S i z) ∨ (e2 = 0 ∧ ¬ saidN M S j z = saidN M S i z) → WW g x 6 0 0 n w 63 [some (.ref 59), some (.int (nI j)), some (.int (nI i)), some (.int (nI k)), some (.int (nI e)), some (.int (nI z))] [.int (nI e2)] := by
              intro e2 he2
              refine ww_istore4 C dX7_answers_63 (by decide) rfl ?_
              refine ww_iincN5 C dX7_answers_65 (by decide) rfl ?_
              refine ww_goto C (tgt := 20) dX7_answers_68 (by decide) ?_
              exact ih20 (z + 1) e2 (by omega) (by omega) (by omega) (by rcases he2 with h | h; exact Or.inl ⟨h.1, hb1, fun s hs => by by_cases c : s = z; (rw [c]; exact h.2.symm); (exact hb2 s (by omega))⟩; exact Or.inr ⟨h.1, fun q => h.2 (((al_iff hk).mp q).2 z (by omega)).symm⟩)
            refine ww_aload0 C dX7_answers_31 ?_
            refine ww_getf C fl_X7_61 hM.1 rfl dX7_answers_32 ?_
            refine ww_bipush C (v := nI 20) dX7_answers_35 (by decide) ?_
            refine ww_iload1 C dX7_answers_37 ?_
            refine ww_imulN C dX7_answers_38 ?_
            refine ww_iload5 C dX7_answers_39 ?_
            refine ww_iaddN C dX7_answers_41 ?_
            refine ww_ialdN C hM.a17 (by have := longN_le (K := K) (hM10 j); omega) dX7_answers_42 (kk := ?_)
            rw [(hSd j hj).2.2 z (by omega)]
            refine ww_aload0 C dX7_answers_43 ?_
            refine ww_getf C fl_X7_61 hM.1 rfl dX7_answers_44 ?_
            refine ww_bipush C (v := nI 20) dX7_answers_47 (by decide) ?_
            refine ww_iload2 C dX7_answers_49 ?_
            refine ww_imulN C dX7_answers_50 ?_
            refine ww_iload5 C dX7_answers_51 ?_
            refine ww_iaddN C dX7_answers_53 ?_
            refine ww_ialdN C hM.a17 (by have := longN_le (K := K) (hM10 i); omega) dX7_answers_54 (kk := ?_)
            rw [(hSd i hi).2.2 z (by omega)]
            refine ww_icmpneN C (hsv z) (tgt := 62) dX7_answers_55 (by decide) (fun c55 => ?_) (fun c55 => ?_)
            · skip
              refine ww_iconst C (v := nI 0) dX7_answers_62 (by decide) ?_
              exact jn63 0 (Or.inr ⟨rfl, c55⟩)
            · skip
              refine ww_iconst C (v := nI 1) dX7_answers_58 (by decide) ?_
              refine ww_goto C (tgt := 63) dX7_answers_59 (by decide) ?_
              exact jn63 1 (Or.inl ⟨rfl, c55⟩)
    exact lp20 (k + 1) 0 e (by omega) (by omega) (by omega) (by rcases he with h | h; exact Or.inl ⟨h.1, h.2, fun s hs => absurd hs (Nat.not_lt_zero _)⟩; exact Or.inr ⟨h.1, fun q => h.2 ((al_iff hk).mp q).1⟩)
  refine ww_aload0 C dX7_answers_0 ?_
  refine ww_getf C fl_X7_64 hM.1 rfl dX7_answers_1 ?_
  refine ww_iload1 C dX7_answers_4 ?_
  refine ww_ialdN C hM.a18 (by omega) dX7_answers_5 (kk := ?_)
  rw [(hSd j hj).1]
  refine ww_iload3 C dX7_answers_6 ?_
  refine ww_icmpltN C (by have := longN_le (K := K) (hM10 j); have := longN_le (K := K) (hM10 i); omega) (tgt := 14) dX7_answers_7 (by decide) (fun c7 => ?_) (fun c7 => ?_)
  · skip
    refine ww_iconst C (v := nI 0) dX7_answers_14 (by decide) ?_
    exact jn15 0 (Or.inr ⟨rfl, by omega⟩)
  · skip
    refine ww_iconst C (v := nI 1) dX7_answers_10 (by decide) ?_
    refine ww_goto C (tgt := 15) dX7_answers_11 (by decide) ?_
    exact jn15 1 (Or.inl ⟨rfl, c7⟩)
theorem longN_1 {K M : Nat → Nat} {i : Nat} (h : 1 ≤ M i) : 1 ≤ longN K M i := longN_ge h
theorem m_shortOf (g : Gx) (n : Nat) (w : Wd) {A : Nat → Nat → Nat} {len pl km : Nat} (hM : MO w A len pl km) {p : Nat} {K M S be : Nat → Nat} (hp : A 1 0 = p) (hp8 : p ≤ 8) (hSd : Sd A p K M S be) (hM10 : ∀ i, M i ≤ 10) {bk i s : Nat} (hbk : bk ≤ 3) (hi : i < p) (hs : s < 256) (hKk : ∀ i, i < p → A 11 (8 * bk + i) = K i ∧ K i ≤ 3) (hM1 : ∀ i, i < p → 1 ≤ M i) (hS5 : ∀ i, S i ≤ 5) : CT g yX7_shortOf cX7_shortOf 7 (some .int) rm_X7_shortOf n n w [.ref 59, .int (nI bk), .int (nI i), .int (nI s)] (Rv (.int (oI (shortN K M S p s i))) w) := by
  have hki := longN_le (K := K) (hM10 i)
  refine CT.start [some (.ref 59), some (.int (nI bk)), some (.int (nI i)), some (.int (nI s)), none, none, none] (by decide +kernel) rfl (Nat.le_of_ble_eq_true rfl) (fun x C hnm => ?_)
  have jn25 : ∀ (e : Nat), 1 ≤ e ∧ e ≤ longN K M i + 1 ∧ (K i = 3 → e = longN K M i) ∧ (¬ K i = 3 → e = 1) → WW g x 7 0 0 n w 25 [some (.ref 59), some (.int (nI bk)), some (.int (nI i)), some (.int (nI s)), none, none, none] [.int (nI e)] := by
    intro e he
    refine ww_istore4 C dX7_shortOf_25 (by decide) rfl ?_
    have lp27 : ∀ (m : Nat) (k : Nat) (z5 z6 : Option Value), 1 ≤ k ∧ k ≤ longN K M i + 1 ∧ (K i = 3 → longN K M i ≤ k) → longN K M i + 1 < k + m → k = (if K i = 3 then longN K M i else 1) ∨ k ≤ ansN K M S p s i + 1 → WW g x 7 0 0 n w 27 [some (.ref 59), some (.int (nI bk)), some (.int (nI i)), some (.int (nI s)), some (.int (nI k)), z5, z6] [] := by
      intro m
      induction m with
      | zero =>
        intro k z5 z6 hk hm hk2
        exact absurd hm (by omega)
      | succ m ih27 =>
        intro k z5 z6 hk hm hk2
        have hki := longN_le (K := K) (hM10 i)
        refine ww_iload4 C dX7_shortOf_27 ?_
        refine ww_aload0 C dX7_shortOf_29 ?_
        refine ww_getf C fl_X7_64 hM.1 rfl dX7_shortOf_30 ?_
        refine ww_iload2 C dX7_shortOf_33 ?_
        refine ww_ialdN C hM.a18 (by omega) dX7_shortOf_34 (kk := ?_)
        rw [(hSd i hi).1]
        refine ww_icmpgtN C (by omega) (tgt := 114) dX7_shortOf_35 (by decide) (fun c35 => ?_) (fun c35 => ?_)
        · skip
          refine ww_bipush C (v := -4) dX7_shortOf_114 (by decide) ?_
          exact ww_ri C dX7_shortOf_116 rfl ⟨Nat.le_of_ble_eq_true rfl, Nat.le_of_ble_eq_true rfl⟩ (by unfold shortN; rw [if_neg (by rcases hk2 with q | q; (split at q; omega; (have := longN_1 (K := K) (hM1 i hi); omega)); omega)]; rfl) rfl
        · skip
          refine ww_iconst C (v := nI 1) dX7_shortOf_38 (by decide) ?_
          refine ww_istore5 C dX7_shortOf_39 (by decide) rfl ?_
          refine ww_iconst C (v := nI 0) dX7_shortOf_41 (by decide) ?_
          refine ww_istore6 C dX7_shortOf_42 (by decide) rfl ?_
          have lp44 : ∀ (m : Nat) (j e5 : Nat), j ≤ p → p < j + m → e5 = (if ansN K M S j s i < k then 1 else 0) → WW g x 7 0 0 n w 44 [some (.ref 59), some (.int (nI bk)), some (.int (nI i)), some (.int (nI s)), some (.int (nI k)), some (.int (nI e5)), some (.int (nI j))] [] := by
            intro m
            induction m with
            | zero =>
              intro j e5 hj0 hm he5
              exact absurd hm (by omega)
            | succ m ih44 =>
              intro j e5 hj0 hm he5
              subst he5
              refine ww_iload6 C dX7_shortOf_44 ?_
              refine ww_aload0 C dX7_shortOf_46 ?_
              refine ww_getf C fl_X7_13 hM.1 rfl dX7_shortOf_47 ?_
              refine ww_iconst C (v := nI 0) dX7_shortOf_50 (by decide) ?_
              refine ww_ialdN C hM.a1 (by decide) dX7_shortOf_51 (kk := ?_)
              rw [hp]
              refine ww_icmpgeN C (by omega) (tgt := 100) dX7_shortOf_52 (by decide) (fun c52 => ?_) (fun c52 => ?_)
              · skip
                have ej : p = j := by omega
                subst ej
                refine ww_iload5 C dX7_shortOf_100 ?_
                refine ww_ifeqN C (by split <;> decide) (tgt := 108) dX7_shortOf_102 (by decide) (fun c102 => ?_) (fun c102 => ?_)
                · skip
                  have cx : ¬ ansN K M S p s i < k := fun q => by rw [if_pos q] at c102; cases c102
                  refine ww_iincN4 C dX7_shortOf_108 (by decide) rfl ?_
                  refine ww_goto C (tgt := 27) dX7_shortOf_111 (by decide) ?_
                  exact ih27 (k + 1) _ _ ⟨by omega, by omega, fun q => by have := hk.2.2 q; omega⟩ (by omega) (Or.inr (by have : ¬ ansN K M S p s i < k := cx; omega))
                · skip
                  have cx : ansN K M S p s i < k := by
                    apply Classical.byContradiction
                    intro q
                    rw [if_neg q] at c102
                    exact c102 rfl
                  refine ww_iload4 C dX7_shortOf_105 ?_
                  exact ww_ri C dX7_shortOf_107 rfl ⟨Nat.le_of_ble_eq_true rfl, Nat.le_of_ble_eq_true rfl⟩ (by unfold shortN; rw [if_pos (by omega)]; by_cases c3 : K i = 3; (rw [if_pos c3]; have := hk.2.2 c3; show nI k = nI (longN K M i); congr 1; omega); (rw [if_neg c3]; show nI k = nI (ansN K M S p s i + 1); congr 1; rw [if_neg c3] at hk2; omega)) rfl
              · skip
                have jn92 : ∀ (e2 : Nat), e2 = (if ansN K M S (j + 1) s i < k then 1 else 0) → WW g x 7 0 0 n w 92 [some (.ref 59), some (.int (nI bk)), some (.int (nI i)), some (.int (nI s)), some (.int (nI k)), some (.int (nI (if ansN K M S j s i < k then 1 else 0))), some (.int (nI j))] [.int (nI e2)] := by
                  intro e2 he2
                  subst he2
                  refine ww_istore5 C dX7_shortOf_92 (by decide) rfl ?_
                  refine ww_iincN6 C dX7_shortOf_94 (by decide) rfl ?_
                  refine ww_goto C (tgt := 44) dX7_shortOf_97 (by decide) ?_
                  exact ih44 (j + 1) _ (by omega) (by omega) rfl
                refine ww_iload5 C dX7_shortOf_55 ?_
                refine ww_ifeqN C (by split <;> decide) (tgt := 91) dX7_shortOf_57 (by decide) (fun c57 => ?_) (fun c57 => ?_)
                · skip
                  have ca : ¬ ansN K M S j s i < k := fun q => by rw [if_pos q] at c57; cases c57
                  refine ww_iconst C (v := nI 0) dX7_shortOf_91 (by decide) ?_
                  exact jn92 0 (by rw [ansN_s, if_neg (by have := c57; split at this; omega; omega)])
                · skip
                  have ca : ansN K M S j s i < k := by
                    apply Classical.byContradiction
                    intro q
                    rw [if_neg q] at c57
                    exact c57 rfl
                  refine ww_iload6 C dX7_shortOf_60 ?_
                  refine ww_iload2 C dX7_shortOf_62 ?_
                  refine ww_icmpeqN C (by omega) (tgt := 87) dX7_shortOf_63 (by decide) (fun c63 => ?_) (fun c63 => ?_)
                  · skip
                    refine ww_iconst C (v := nI 1) dX7_shortOf_87 (by decide) ?_
                    refine ww_goto C (tgt := 92) dX7_shortOf_88 (by decide) ?_
                    exact jn92 1 (by rw [ansN_s, if_pos c63, if_pos (by have := ca; omega)])
                  · skip
                    refine ww_iload3 C dX7_shortOf_66 ?_
                    refine ww_iload6 C dX7_shortOf_67 ?_
                    refine ww_cS2v C (c_mhas g n w (s := s) (i := j) (by omega) (by omega)) kS_X7_153 ⟨Nat.le_of_ble_eq_true rfl, Nat.le_of_ble_eq_true rfl⟩ ⟨rfl, rfl⟩ ⟨Nat.le_of_ble_eq_true rfl, Nat.le_of_ble_eq_true rfl⟩ (Nat.le_of_ble_eq_true rfl) dX7_shortOf_69 ?_
                    refine ww_ifeqB C (tgt := 87) dX7_shortOf_72 (by decide) (fun c72 => ?_) (fun c72 => ?_)
                    · skip
                      refine ww_iconst C (v := nI 1) dX7_shortOf_87 (by decide) ?_
                      refine ww_goto C (tgt := 92) dX7_shortOf_88 (by decide) ?_
                      exact jn92 1 (by rw [ansN_s, if_neg c63, c72, if_neg Bool.false_ne_true, if_pos (by have := ca; omega)])
                    · skip
                      refine ww_aload0 C dX7_shortOf_75 ?_
                      refine ww_iload6 C dX7_shortOf_76 ?_
                      refine ww_iload2 C dX7_shortOf_78 ?_
                      refine ww_iload4 C dX7_shortOf_79 ?_
                      refine ww_cV3v C hM.1 rfl (m_answers g n w hM hp hp8 hSd hM10 (i := i) (j := j) (k := k) hi c52 c35 hS5) kV_X7_195 ⟨Nat.le_of_ble_eq_true rfl, Nat.le_of_ble_eq_true rfl⟩ ⟨rfl, rfl⟩ ⟨Nat.le_of_ble_eq_true rfl, Nat.le_of_ble_eq_true rfl⟩ (Nat.le_of_ble_eq_true rfl) dX7_shortOf_81 ?_
                      refine ww_ifneB C (tgt := 91) dX7_shortOf_84 (by decide) (fun c84 => ?_) (fun c84 => ?_)
                      · skip
                        refine ww_iconst C (v := nI 0) dX7_shortOf_91 (by decide) ?_
                        exact jn92 0 (by rw [ansN_s, if_neg c63, c72, if_pos rfl, if_neg (by have := of_decide_eq_true c84; omega)])
                      · skip
                        refine ww_iconst C (v := nI 1) dX7_shortOf_87 (by decide) ?_
                        refine ww_goto C (tgt := 92) dX7_shortOf_88 (by decide) ?_
                        exact jn92 1 (by rw [ansN_s, if_neg c63, c72, if_pos rfl, if_pos (by have := of_decide_eq_false c84; have := ca; omega)])
          exact lp44 (p + 1) 0 1 (by omega) (by omega) (by rw [if_pos (show ansN K M S 0 s i < k from hk.1)])
    exact lp27 (longN K M i + 2) e _ _ ⟨he.1, he.2.1, fun q => by have := he.2.2.1 q; omega⟩ (by omega) (Or.inl (by split; exact he.2.2.1 (by assumption); exact he.2.2.2 (by assumption)))
  refine ww_aload0 C dX7_shortOf_0 ?_
  refine ww_getf C fl_X7_43 hM.1 rfl dX7_shortOf_1 ?_
  refine ww_bipush C (v := nI 8) dX7_shortOf_4 (by decide) ?_
  refine ww_iload1 C dX7_shortOf_6 ?_
  refine ww_imulN C dX7_shortOf_7 ?_
  refine ww_iload2 C dX7_shortOf_8 ?_
  refine ww_iaddN C dX7_shortOf_9 ?_
  refine ww_ialdN C hM.a11 (by omega) dX7_shortOf_10 (kk := ?_)
  rw [(hKk i hi).1]
  refine ww_iconst C (v := nI 3) dX7_shortOf_11 (by decide) ?_
  refine ww_icmpneN C (by have := (hKk i hi).2; omega) (tgt := 24) dX7_shortOf_12 (by decide) (fun c12 => ?_) (fun c12 => ?_)
  · skip
    refine ww_iconst C (v := nI 1) dX7_shortOf_24 (by decide) ?_
    exact jn25 1 ⟨by omega, by omega, fun e => absurd e c12, fun _ => rfl⟩
  · skip
    refine ww_aload0 C dX7_shortOf_15 ?_
    refine ww_getf C fl_X7_64 hM.1 rfl dX7_shortOf_16 ?_
    refine ww_iload2 C dX7_shortOf_19 ?_
    refine ww_ialdN C hM.a18 (by omega) dX7_shortOf_20 (kk := ?_)
    rw [(hSd i hi).1]
    refine ww_goto C (tgt := 25) dX7_shortOf_21 (by decide) ?_
    exact jn25 _ ⟨longN_1 (hM1 i hi), by omega, fun _ => rfl, fun e => absurd c12 e⟩
theorem m_allShortOf (g : Gx) (n : Nat) (w : Wd) {A : Nat → Nat → Nat} {len pl km : Nat} (hM : MO w A len pl km) {p : Nat} {K M S be : Nat → Nat} (hp : A 1 0 = p) (hp8 : p ≤ 8) (hSd : Sd A p K M S be) (hM10 : ∀ i, M i ≤ 10) {bk s : Nat} (hbk : bk ≤ 3) (hs : s < 256) (hKk : ∀ i, i < p → A 11 (8 * bk + i) = K i ∧ K i ≤ 3) (hM1 : ∀ i, i < p → 1 ≤ M i) (hS5 : ∀ i, S i ≤ 5) : CT g yX7_allShortOf cX7_allShortOf 6 (some .int) rm_X7_allShortOf n n w [.ref 59, .int (nI bk), .int (nI s)] (Rv (.int (oI (soN (shortN K M S p s) (tb s)  p))) w) := by
  refine CT.start [some (.ref 59), some (.int (nI bk)), some (.int (nI s)), none, none, none] (by decide +kernel) rfl (Nat.le_of_ble_eq_true rfl) (fun x C hnm => ?_)
  refine ww_iconst C (v := nI 0) dX7_allShortOf_0 (by decide) ?_
  refine ww_istore3 C dX7_allShortOf_1 (by decide) rfl ?_
  refine ww_iconst C (v := nI 0) dX7_allShortOf_2 (by decide) ?_
  refine ww_istore4 C dX7_allShortOf_3 (by decide) rfl ?_
  have lp5 : ∀ (m : Nat) (i acc : Nat) (z5 : Option Value), i ≤ p → p < i + m → soN (shortN K M S p s) (tb s)  i = some acc → acc ≤ i * 20 → WW g x 6 0 0 n w 5 [some (.ref 59), some (.int (nI bk)), some (.int (nI s)), some (.int (nI acc)), some (.int (nI i)), z5] [] := by
    intro m
    induction m with
    | zero =>
      intro i acc z5 hi0 hm hacc hab
      exact absurd hm (by omega)
    | succ m ih5 =>
      intro i acc z5 hi0 hm hacc hab
      refine ww_iload4 C dX7_allShortOf_5 ?_
      refine ww_aload0 C dX7_allShortOf_7 ?_
      refine ww_getf C fl_X7_13 hM.1 rfl dX7_allShortOf_8 ?_
      refine ww_iconst C (v := nI 0) dX7_allShortOf_11 (by decide) ?_
      refine ww_ialdN C hM.a1 (by decide) dX7_allShortOf_12 (kk := ?_)
      rw [hp]
      refine ww_icmpgeN C (by omega) (tgt := 58) dX7_allShortOf_13 (by decide) (fun c13 => ?_) (fun c13 => ?_)
      · skip
        refine ww_iload3 C dX7_allShortOf_58 ?_
        exact ww_ri C dX7_allShortOf_59 rfl ⟨Nat.le_of_ble_eq_true rfl, Nat.le_of_ble_eq_true rfl⟩ (by have ei : i = p := (by omega); rw [ei] at hacc; rw [hacc]; rfl) rfl
      · skip
        refine ww_iload2 C dX7_allShortOf_16 ?_
        refine ww_iload4 C dX7_allShortOf_17 ?_
        refine ww_cS2v C (c_mhas g n w (s := s) (i := i) (by omega) (by omega)) kS_X7_153 ⟨Nat.le_of_ble_eq_true rfl, Nat.le_of_ble_eq_true rfl⟩ ⟨rfl, rfl⟩ ⟨Nat.le_of_ble_eq_true rfl, Nat.le_of_ble_eq_true rfl⟩ (Nat.le_of_ble_eq_true rfl) dX7_allShortOf_19 ?_
        refine ww_ifeqB C (tgt := 36) dX7_allShortOf_22 (by decide) (fun c22 => ?_) (fun c22 => ?_)
        · skip
          refine ww_iconst C (v := nI 0) dX7_allShortOf_36 (by decide) ?_
          refine ww_istore5 C dX7_allShortOf_37 (by decide) rfl ?_
          refine ww_iload5 C dX7_allShortOf_39 ?_
          refine ww_ifge C (tgt := 47) dX7_allShortOf_41 (by decide) (fun c41 => ?_) (fun c41 => ?_)
          · skip
            refine ww_iload3 C dX7_allShortOf_47 ?_
            refine ww_iload5 C dX7_allShortOf_48 ?_
            refine ww_iaddN C dX7_allShortOf_50 ?_
            refine ww_istore3 C dX7_allShortOf_51 (by decide) rfl ?_
            refine ww_iincN4 C dX7_allShortOf_52 (by decide) rfl ?_
            refine ww_goto C (tgt := 5) dX7_allShortOf_55 (by decide) ?_
            exact ih5 (i + 1) (acc + 0) _ (by omega) (by omega) (soN_f hacc c22) (by omega)
          · skip
            exact absurd (nI_ge0 (by omega)) c41
        · skip
          refine ww_aload0 C dX7_allShortOf_25 ?_
          refine ww_iload1 C dX7_allShortOf_26 ?_
          refine ww_iload4 C dX7_allShortOf_27 ?_
          refine ww_iload2 C dX7_allShortOf_29 ?_
          refine ww_cV3v C hM.1 rfl (m_shortOf g n w hM hp hp8 hSd hM10 (bk := bk) (i := i) (s := s) hbk c13 hs hKk hM1 hS5) kV_X7_198 ⟨Nat.le_of_ble_eq_true rfl, Nat.le_of_ble_eq_true rfl⟩ ⟨rfl, rfl⟩ ⟨Nat.le_of_ble_eq_true rfl, Nat.le_of_ble_eq_true rfl⟩ (Nat.le_of_ble_eq_true rfl) dX7_allShortOf_30 ?_
          rcases qs : shortN K M S p s i with _ | v
          · skip
            refine ww_goto C (tgt := 37) dX7_allShortOf_33 (by decide) ?_
            refine ww_istore5 C dX7_allShortOf_37 (by decide) rfl ?_
            refine ww_iload5 C dX7_allShortOf_39 ?_
            refine ww_ifge C (tgt := 47) dX7_allShortOf_41 (by decide) (fun c41 => ?_) (fun c41 => ?_)
            · skip
              exact absurd c41 (by decide)
            · skip
              refine ww_bipush C (v := -4) dX7_allShortOf_44 (by decide) ?_
              exact ww_ri C dX7_allShortOf_46 rfl ⟨Nat.le_of_ble_eq_true rfl, Nat.le_of_ble_eq_true rfl⟩ (by rw [soN_x hacc c22 qs c13]; rfl) rfl
          · skip
            have hv := shortN_le hM10 qs
            refine ww_topi (show oI (some v) = nI v from rfl) ?_
            refine ww_goto C (tgt := 37) dX7_allShortOf_33 (by decide) ?_
            refine ww_istore5 C dX7_allShortOf_37 (by decide) rfl ?_
            refine ww_iload5 C dX7_allShortOf_39 ?_
            refine ww_ifge C (tgt := 47) dX7_allShortOf_41 (by decide) (fun c41 => ?_) (fun c41 => ?_)
            · skip
              refine ww_iload3 C dX7_allShortOf_47 ?_
              refine ww_iload5 C dX7_allShortOf_48 ?_
              refine ww_iaddN C dX7_allShortOf_50 ?_
              refine ww_istore3 C dX7_allShortOf_51 (by decide) rfl ?_
              refine ww_iincN4 C dX7_allShortOf_52 (by decide) rfl ?_
              refine ww_goto C (tgt := 5) dX7_allShortOf_55 (by decide) ?_
              exact ih5 (i + 1) (acc + v) _ (by omega) (by omega) (soN_t hacc c22 qs) (by omega)
            · skip
              exact absurd (nI_ge0 (by omega)) c41
  exact lp5 (p + 1) 0 0 _ (by omega) (by omega) rfl (by omega)
theorem of_hb {p : Nat} {s i : Int32} (hp : p ≤ 8) (h1 : stB p s = true) (h2 : ofB s.toNatClampNeg i = true) : hb p i = true := by
  obtain ⟨q, q1, q2, rfl⟩ := stB_of h1
  have := p256 hp
  rw [cl_nI (by omega)] at h2
  obtain ⟨j, j1, j2, rfl, j4⟩ := ofB_of h2 q2 hp
  exact hb_N j1 (by omega)
theorem ofB_N {q j : Nat} (hj : j < 8) : ofB q (nI j) = tb q j := by
  unfold ofB
  rw [hb_N hj (by decide), cl_nI (by omega), Bool.true_and]
theorem m_shortCall (g : Gx) (n : Nat) (w : Wd) {t : Nat → Nat} {len : Nat} {h : Hs} {a : Ms} {kn : Nat} {k1 k2 : Ms} (hMR : MR w t len h a kn k1 k2) (hB : Bd h a) (hBk : Bk kn k1 k2) (i s : Int32) : CT g yX7_shortCall cX7_shortCall 3 (some .int) rm_X7_shortCall n n w [.ref 59, .int i, .int s] (Rq (.int (V_short h a i s)) (fun w1 => MR w1 t len h a kn k1 k2 ∧ fr w w1 59 83)) := by
  obtain ⟨A, pl, hM, hRl⟩ := id hMR
  have hf : fr w w 59 83 := fr.rf
  obtain ⟨⟨hp1, hp8⟩, ⟨hb1, hb12, hv20, hmi9⟩, hK3, hM10, hS5, hM1, hX99, hR9, hwo5, hsh1, hbe9, hhd9, hhn12⟩ := id hB
  obtain ⟨hln, hkn2, htx, hRH, hRN, hRE, hk1r, hk2r⟩ := id hRl
  obtain ⟨rp, rX, rw_, rb, rv, rm_⟩ := id hRH
  refine CT.start [some (.ref 59), some (.int i), some (.int s)] (by decide +kernel) rfl (Nat.le_of_ble_eq_true rfl) (fun x C hnm => ?_)
  refine ww_aload0 C dX7_shortCall_0 ?_
  refine ww_iload1 C dX7_shortCall_1 ?_
  refine ww_cV1v C hM.1 rfl (m_isPerson g n w hM _ rp hp8) kV_X7_139 ⟨Nat.le_of_ble_eq_true rfl, Nat.le_of_ble_eq_true rfl⟩ ⟨rfl, rfl⟩ ⟨Nat.le_of_ble_eq_true rfl, Nat.le_of_ble_eq_true rfl⟩ (Nat.le_of_ble_eq_true rfl) dX7_shortCall_2 ?_
  refine ww_ifeqB C (tgt := 24) dX7_shortCall_5 (by decide) (fun c5 => ?_) (fun c5 => ?_)
  · skip
    refine ww_iconst C (v := -1) dX7_shortCall_24 (by decide) ?_
    exact ww_riq C dX7_shortCall_25 rfl ⟨Nat.le_of_ble_eq_true rfl, Nat.le_of_ble_eq_true rfl⟩ (by unfold V_short; rw [if_neg (fun e => by rw [of_hb hp8 e.1 e.2] at c5; cases c5)]) ⟨hMR, fr.rf⟩
  · skip
    obtain ⟨j, hj, rfl⟩ := hb_of c5
    have hcj : (nI j).toNatClampNeg = j := cl_nI (by omega)
    refine ww_aload0 C dX7_shortCall_8 ?_
    refine ww_iload2 C dX7_shortCall_9 ?_
    refine ww_cV1v C hM.1 rfl (m_isSet g n w hM _ rp hp8) kV_X7_156 ⟨Nat.le_of_ble_eq_true rfl, Nat.le_of_ble_eq_true rfl⟩ ⟨rfl, rfl⟩ ⟨Nat.le_of_ble_eq_true rfl, Nat.le_of_ble_eq_true rfl⟩ (Nat.le_of_ble_eq_true rfl) dX7_shortCall_10 ?_
    refine ww_ifeqB C (tgt := 24) dX7_shortCall_13 (by decide) (fun c13 => ?_) (fun c13 => ?_)
    · skip
      refine ww_iconst C (v := -1) dX7_shortCall_24 (by decide) ?_
      exact ww_riq C dX7_shortCall_25 rfl ⟨Nat.le_of_ble_eq_true rfl, Nat.le_of_ble_eq_true rfl⟩ (by unfold V_short; rw [if_neg (fun e => by rw [c13] at e; cases e.1)]) ⟨hMR, fr.rf⟩
    · skip
      obtain ⟨q, hq1, hqm, rfl⟩ := stB_of c13
      have h256 := p256 hp8
      have hcq : (nI q).toNatClampNeg = q := cl_nI (by omega)
      refine ww_iload2 C dX7_shortCall_16 ?_
      refine ww_iload1 C dX7_shortCall_17 ?_
      refine ww_cS2v C (c_mhas g n w (s := q) (i := j) (by omega) (by omega)) kS_X7_153 ⟨Nat.le_of_ble_eq_true rfl, Nat.le_of_ble_eq_true rfl⟩ ⟨rfl, rfl⟩ ⟨Nat.le_of_ble_eq_true rfl, Nat.le_of_ble_eq_true rfl⟩ (Nat.le_of_ble_eq_true rfl) dX7_shortCall_18 ?_
      refine ww_ifneB C (tgt := 26) dX7_shortCall_21 (by decide) (fun c21 => ?_) (fun c21 => ?_)
      · skip
        refine ww_aload0 C dX7_shortCall_26 ?_
        refine ww_cV00q C hM.1 rfl (m_sayNow g n w hM hRl hB hBk) kV_X7_145 ⟨Nat.le_of_ble_eq_true rfl, Nat.le_of_ble_eq_true rfl⟩ ⟨rfl, rfl⟩ ⟨Nat.le_of_ble_eq_true rfl, Nat.le_of_ble_eq_true rfl⟩ (Nat.le_of_ble_eq_true rfl) dX7_shortCall_27 (fun w1 hw1 => ?_)
        obtain ⟨B, hM, hf1, hBo, hRl, hSd⟩ := hw1
        have hf := hf.tr hf1
        refine ww_aload0 C dX7_shortCall_30 ?_
        refine ww_iconst C (v := nI 0) dX7_shortCall_31 (by decide) ?_
        refine ww_iload1 C dX7_shortCall_32 ?_
        refine ww_iload2 C dX7_shortCall_33 ?_
        refine ww_cV3v C hM.1 rfl (m_shortOf g n w1 hM ((congrFun (hBo 1 (by decide) (by decide) (by decide)) 0).trans rp) hp8 hSd hM10 (bk := 0) (i := j) (s := q) (by omega) hj (by omega) (fun i hi => ⟨(congrFun (hBo 11 (by decide) (by decide) (by decide)) _).trans (hRN i hi).1, hK3 i⟩) hM1 hS5) kV_X7_198 ⟨Nat.le_of_ble_eq_true rfl, Nat.le_of_ble_eq_true rfl⟩ ⟨rfl, rfl⟩ ⟨Nat.le_of_ble_eq_true rfl, Nat.le_of_ble_eq_true rfl⟩ (Nat.le_of_ble_eq_true rfl) dX7_shortCall_34 ?_
        exact ww_riq C dX7_shortCall_37 rfl ⟨Nat.le_of_ble_eq_true rfl, Nat.le_of_ble_eq_true rfl⟩ (by unfold V_short; rw [hcq, hcj, if_pos ⟨c13, by rw [ofB_N (by omega)]; exact c21⟩]) ⟨⟨B, pl, hM, hRl⟩, hf⟩
      · skip
        refine ww_iconst C (v := -1) dX7_shortCall_24 (by decide) ?_
        exact ww_riq C dX7_shortCall_25 rfl ⟨Nat.le_of_ble_eq_true rfl, Nat.le_of_ble_eq_true rfl⟩ (by unfold V_short; rw [hcq, if_neg (fun e => by have e2 := e.2; rw [ofB_N (by omega), c21] at e2; cases e2)]) ⟨hMR, fr.rf⟩
theorem m_allShort (g : Gx) (n : Nat) (w : Wd) {t : Nat → Nat} {len : Nat} {h : Hs} {a : Ms} {kn : Nat} {k1 k2 : Ms} (hMR : MR w t len h a kn k1 k2) (hB : Bd h a) (hBk : Bk kn k1 k2) (s : Int32) : CT g yX7_allShort cX7_allShort 2 (some .int) rm_X7_allShort n n w [.ref 59, .int s] (Rq (.int (V_all h a s)) (fun w1 => MR w1 t len h a kn k1 k2 ∧ fr w w1 59 83)) := by
  obtain ⟨A, pl, hM, hRl⟩ := id hMR
  have hf : fr w w 59 83 := fr.rf
  obtain ⟨⟨hp1, hp8⟩, ⟨hb1, hb12, hv20, hmi9⟩, hK3, hM10, hS5, hM1, hX99, hR9, hwo5, hsh1, hbe9, hhd9, hhn12⟩ := id hB
  obtain ⟨hln, hkn2, htx, hRH, hRN, hRE, hk1r, hk2r⟩ := id hRl
  obtain ⟨rp, rX, rw_, rb, rv, rm_⟩ := id hRH
  refine CT.start [some (.ref 59), some (.int s)] (by decide +kernel) rfl (Nat.le_of_ble_eq_true rfl) (fun x C hnm => ?_)
  refine ww_aload0 C dX7_allShort_0 ?_
  refine ww_iload1 C dX7_allShort_1 ?_
  refine ww_cV1v C hM.1 rfl (m_isSet g n w hM _ rp hp8) kV_X7_156 ⟨Nat.le_of_ble_eq_true rfl, Nat.le_of_ble_eq_true rfl⟩ ⟨rfl, rfl⟩ ⟨Nat.le_of_ble_eq_true rfl, Nat.le_of_ble_eq_true rfl⟩ (Nat.le_of_ble_eq_true rfl) dX7_allShort_2 ?_
  refine ww_ifneB C (tgt := 10) dX7_allShort_5 (by decide) (fun c5 => ?_) (fun c5 => ?_)
  · skip
    obtain ⟨q, hq1, hqm, rfl⟩ := stB_of c5
    have h256 := p256 hp8
    have hcq : (nI q).toNatClampNeg = q := cl_nI (by omega)
    refine ww_aload0 C dX7_allShort_10 ?_
    refine ww_cV00q C hM.1 rfl (m_sayNow g n w hM hRl hB hBk) kV_X7_145 ⟨Nat.le_of_ble_eq_true rfl, Nat.le_of_ble_eq_true rfl⟩ ⟨rfl, rfl⟩ ⟨Nat.le_of_ble_eq_true rfl, Nat.le_of_ble_eq_true rfl⟩ (Nat.le_of_ble_eq_true rfl) dX7_allShort_11 (fun w1 hw1 => ?_)
    obtain ⟨B, hM, hf1, hBo, hRl, hSd⟩ := hw1
    have hf := hf.tr hf1
    refine ww_aload0 C dX7_allShort_14 ?_
    refine ww_iconst C (v := nI 0) dX7_allShort_15 (by decide) ?_
    refine ww_iload1 C dX7_allShort_16 ?_
    refine ww_cV2v C hM.1 rfl (m_allShortOf g n w1 hM ((congrFun (hBo 1 (by decide) (by decide) (by decide)) 0).trans rp) hp8 hSd hM10 (bk := 0) (s := q) (by omega) (by omega) (fun i hi => ⟨(congrFun (hBo 11 (by decide) (by decide) (by decide)) _).trans (hRN i hi).1, hK3 i⟩) hM1 hS5) kV_X7_202 ⟨Nat.le_of_ble_eq_true rfl, Nat.le_of_ble_eq_true rfl⟩ ⟨rfl, rfl⟩ ⟨Nat.le_of_ble_eq_true rfl, Nat.le_of_ble_eq_true rfl⟩ (Nat.le_of_ble_eq_true rfl) dX7_allShort_17 ?_
    exact ww_riq C dX7_allShort_20 rfl ⟨Nat.le_of_ble_eq_true rfl, Nat.le_of_ble_eq_true rfl⟩ (by unfold V_all; rw [if_pos c5, hcq]) ⟨⟨B, pl, hM, hRl⟩, hf⟩
  · skip
    refine ww_iconst C (v := -1) dX7_allShort_8 (by decide) ?_
    exact ww_riq C dX7_allShort_9 rfl ⟨Nat.le_of_ble_eq_true rfl, Nat.le_of_ble_eq_true rfl⟩ (by unfold V_all; rw [if_neg (by rw [c5]; decide)]) ⟨hMR, fr.rf⟩
