def hgN (f : Nat → Bool) : Nat → Nat
  | 0 => 0
  | n + 1 => if f n = true then hgN f n ||| 2 ^ n else hgN f n
theorem hgN_lt (f : Nat → Bool) : ∀ n, hgN f n < 2 ^ n
  | 0 => Nat.zero_lt_one
  | n + 1 => by
    have := hgN_lt f n
    unfold hgN
    split
    · exact Nat.or_lt_two_pow (Nat.lt_of_lt_of_le this (Nat.pow_le_pow_right (by decide) (by omega))) (Nat.pow_lt_pow_right (by decide) (by omega))
    · exact Nat.lt_of_lt_of_le this (Nat.pow_le_pow_right (by decide) (by omega))
theorem hgN_tb (f : Nat → Bool) : ∀ n j, tb (hgN f n) j = (decide (j < n) && f j)
  | 0, j => by show tb 0 j = _; rw [tb_00, decide_eq_false (by omega)]; rfl
  | n + 1, j => by
    have ih := hgN_tb f n j
    unfold hgN
    split
    · rename_i h
      rw [tb_or, ih]
      by_cases e : j = n
      · subst e
        simp [h]
      · rw [decide_eq_false e, Bool.or_false]
        rw [show decide (j < n) = decide (j < n + 1) from decide_eq_decide.mpr (by omega)]
    · rename_i h
      rw [ih]
      by_cases e : j = n
      · subst e
        have : f j = false := by simpa using h
        rw [this, Bool.and_false, Bool.and_false]
      · rw [show decide (j < n) = decide (j < n + 1) from decide_eq_decide.mpr (by omega)]
theorem hgN_255 (f : Nat → Bool) {n : Nat} (h : n ≤ 8) : hgN f n ≤ 255 := by
  have := hgN_lt f n
  have := p256 h
  omega
/-- those of s that rank above i -/
def hiN (Ra : Nat → Nat) (p s i : Nat) : Nat := hgN (fun j => tb s j && decide (Ra i < Ra j)) p
theorem c_rankAll (g : Gx) (n : Nat) (w : Wd) {k pe b v od : Nat} {Lo Be Pa Ra Ti Wk Hi Odr : Nat → Nat} {Pk : Nat → Int32} (hG : GR w k pe b v Lo Be Pa Ra Ti Wk Hi Pk Odr od) {s : Nat} (hs : s < 2147483648) : CT g yX1_rankAll cX1_rankAll 4 none rm_X1_rankAll n n w [.ref k, .int (nI s)] (R0q (fun w1 => ∃ Hi2, GR w1 k pe b v Lo Be Pa Ra Ti Wk Hi2 Pk Odr od ∧ (∀ q, q < pe → Hi2 q = hiN Ra pe s q) ∧ fr w w1 k (k + 10))) := by
  have hf : fr w w k (k + 10) := fr.rf
  have hzz := hG.2.2.2.2.2.2.2.2.2.2.2.2.2.2.2.2.2.2
  refine CT.start [some (.ref k), some (.int (nI s)), none, none] (by decide +kernel) rfl (Nat.le_of_ble_eq_true rfl) (fun x C hnm => ?_)
  refine ww_iconst C (v := nI 0) dX1_rankAll_0 (by decide) ?_
  refine ww_istore2 C dX1_rankAll_1 (by decide) rfl ?_
  have lp2 : ∀ (m : Nat) (i : Nat) (Hi2 : Nat → Nat) (u : Wd) (z3 : Option Value), i ≤ pe → pe < i + m → (∀ q, q < i → Hi2 q = hiN Ra pe s q) → GR u k pe b v Lo Be Pa Ra Ti Wk Hi2 Pk Odr od → fr w u k (k + 10) → WW g x 4 0 0 n u 2 [some (.ref k), some (.int (nI s)), some (.int (nI i)), z3] [] := by
    intro m
    induction m with
    | zero =>
      intro i Hi2 u z3 hi0 hm ha hG hf
      exact absurd hm (by omega)
    | succ m ih2 =>
      intro i Hi2 u z3 hi0 hm ha hG hf
      refine ww_iload2 C dX1_rankAll_2 ?_
      refine ww_aload0 C dX1_rankAll_3 ?_
      refine ww_getf C fl_X1_9 hG.1 rfl dX1_rankAll_4 ?_
      refine ww_icmpgeN C (by omega) (tgt := 74) dX1_rankAll_7 (by decide) (fun c7 => ?_) (fun c7 => ?_)
      · skip
        have e : i = pe := by omega
        subst e
        exact ww_rvq C dX1_rankAll_74 rfl ⟨Nat.le_of_ble_eq_true rfl, Nat.le_of_ble_eq_true rfl⟩ ⟨Hi2, hG, ha, hf⟩
      · skip
        refine ww_aload0 C dX1_rankAll_10 ?_
        refine ww_getf C fl_X1_41 hG.1 rfl dX1_rankAll_11 ?_
        refine ww_iload2 C dX1_rankAll_14 ?_
        refine ww_iconst C (v := nI 0) dX1_rankAll_15 (by decide) ?_
        refine ww_iastN C hG.2.2.2.2.2.2.2.1 (by omega) dX1_rankAll_16 (kk := fun w1 hw1 => ?_)
        have hf : fr w w1 k (k + 10) := hf.tr (fr.up hw1 (by omega) (by omega))
        have hG := hG.setHi hw1 (up_le hG.2.2.2.2.2.2.2.2.2.2.2.2.2.2.2.2.1 (by omega))
        refine ww_iconst C (v := nI 0) dX1_rankAll_17 (by decide) ?_
        refine ww_istore3 C dX1_rankAll_18 (by decide) rfl ?_
        have lp19 : ∀ (m : Nat) (j : Nat) (u : Wd), j ≤ pe → pe < j + m → GR u k pe b v Lo Be Pa Ra Ti Wk (va_up Hi2 i (hgN (fun j => tb s j && decide (Ra i < Ra j)) j)) Pk Odr od → fr w u k (k + 10) → WW g x 4 0 0 n u 19 [some (.ref k), some (.int (nI s)), some (.int (nI i)), some (.int (nI j))] [] := by
          intro m
          induction m with
          | zero =>
            intro j u hj0 hmj hG hf
            exact absurd hmj (by omega)
          | succ m ih19 =>
            intro j u hj0 hmj hG hf
            refine ww_iload3 C dX1_rankAll_19 ?_
            refine ww_aload0 C dX1_rankAll_20 ?_
            refine ww_getf C fl_X1_9 hG.1 rfl dX1_rankAll_21 ?_
            refine ww_icmpgeN C (by omega) (tgt := 68) dX1_rankAll_24 (by decide) (fun c24 => ?_) (fun c24 => ?_)
            · skip
              have e : j = pe := by omega
              subst e
              refine ww_iincN2 C dX1_rankAll_68 (by decide) rfl ?_
              refine ww_goto C (tgt := 2) dX1_rankAll_71 (by decide) ?_
              exact ih2 (i + 1) _ _ _ (by omega) (by omega) (lt_s (fun q hq => by rw [va_upd_ne _ _ (by omega)]; exact ha q hq) (va_upd_self _ _ _)) hG hf
            · skip
              refine ww_iload3 C dX1_rankAll_27 ?_
              refine ww_iload1 C dX1_rankAll_28 ?_
              refine ww_cSN2v C (c_isOf g n u _ _ (by omega) hs) kSN_X1_84 ⟨Nat.le_of_ble_eq_true rfl, Nat.le_of_ble_eq_true rfl⟩ ⟨rfl, rfl⟩ ⟨Nat.le_of_ble_eq_true rfl, Nat.le_of_ble_eq_true rfl⟩ (Nat.le_of_ble_eq_true rfl) dX1_rankAll_29 ?_
              refine ww_ifeqB C (tgt := 62) dX1_rankAll_32 (by decide) (fun c32 => ?_) (fun c32 => ?_)
              · skip
                refine ww_iincN3 C dX1_rankAll_62 (by decide) rfl ?_
                refine ww_goto C (tgt := 19) dX1_rankAll_65 (by decide) ?_
                exact ih19 (j + 1) _ (by omega) (by omega) (by show GR _ _ _ _ _ _ _ _ _ _ _ (va_up Hi2 i (if (tb s j && decide (Ra i < Ra j)) = true then _ else _)) _ _ _; rw [if_neg (by rw [c32]; simp)]; exact hG) hf
              · skip
                refine ww_aload0 C dX1_rankAll_35 ?_
                refine ww_getf C fl_X1_31 hG.1 rfl dX1_rankAll_36 ?_
                refine ww_iload3 C dX1_rankAll_39 ?_
                refine ww_ialdN C hG.2.2.2.2.1 (by omega) dX1_rankAll_40 (kk := ?_)
                refine ww_aload0 C dX1_rankAll_41 ?_
                refine ww_getf C fl_X1_31 hG.1 rfl dX1_rankAll_42 ?_
                refine ww_iload2 C dX1_rankAll_45 ?_
                refine ww_ialdN C hG.2.2.2.2.1 (by omega) dX1_rankAll_46 (kk := ?_)
                refine ww_icmpleN C (by have := hG.2.2.2.2.2.2.2.2.2.2.2.2.2.1 j; have := hG.2.2.2.2.2.2.2.2.2.2.2.2.2.1 i; omega) (tgt := 62) dX1_rankAll_47 (by decide) (fun c47 => ?_) (fun c47 => ?_)
                · skip
                  refine ww_iincN3 C dX1_rankAll_62 (by decide) rfl ?_
                  refine ww_goto C (tgt := 19) dX1_rankAll_65 (by decide) ?_
                  exact ih19 (j + 1) _ (by omega) (by omega) (by show GR _ _ _ _ _ _ _ _ _ _ _ (va_up Hi2 i (if (tb s j && decide (Ra i < Ra j)) = true then _ else _)) _ _ _; rw [if_neg (by rw [decide_eq_false (by omega)]; simp)]; exact hG) hf
                · skip
                  refine ww_aload0 C dX1_rankAll_50 ?_
                  refine ww_getf C fl_X1_41 hG.1 rfl dX1_rankAll_51 ?_
                  refine ww_iload2 C dX1_rankAll_54 ?_
                  refine ww_dup2 C dX1_rankAll_55 rfl rfl ?_
                  refine ww_ialdN C hG.2.2.2.2.2.2.2.1 (by omega) dX1_rankAll_56 (kk := ?_)
                  refine ww_topi (show nI (va_up Hi2 i (hgN (fun j => tb s j && decide (Ra i < Ra j)) j) i) = nI (hgN (fun j => tb s j && decide (Ra i < Ra j)) j) by rw [va_upd_self]) ?_
                  refine ww_iconst C (v := nI 1) dX1_rankAll_57 (by decide) ?_
                  refine ww_iload3 C dX1_rankAll_58 ?_
                  refine ww_shl1N C (by omega) dX1_rankAll_59 ?_
                  refine ww_iorN C dX1_rankAll_60 ?_
                  have hbo : hgN (fun j => tb s j && decide (Ra i < Ra j)) j ||| 2 ^ j ≤ 255 := by have := or_lt (n := 8) (s := hgN (fun j => tb s j && decide (Ra i < Ra j)) j) (i := j) (Nat.lt_of_lt_of_le (hgN_lt _ j) (Nat.pow_le_pow_right (by decide) (by omega))) (by omega); omega
                  refine ww_iastN C hG.2.2.2.2.2.2.2.1 (by omega) dX1_rankAll_61 (kk := fun w2 hw2 => ?_)
                  have hf : fr w w2 k (k + 10) := hf.tr (fr.up hw2 (by omega) (by omega))
                  have hG := hG.setHi hw2 (up_le hG.2.2.2.2.2.2.2.2.2.2.2.2.2.2.2.2.1 (by omega))
                  refine ww_iincN3 C dX1_rankAll_62 (by decide) rfl ?_
                  refine ww_goto C (tgt := 19) dX1_rankAll_65 (by decide) ?_
                  exact ih19 (j + 1) _ (by omega) (by omega) (by rw [up_up] at hG; show GR _ _ _ _ _ _ _ _ _ _ _ (va_up Hi2 i (if (tb s j && decide (Ra i < Ra j)) = true then _ else _)) _ _ _; rw [if_pos (by rw [c32, decide_eq_true c47]; rfl)]; exact hG) hf
        exact lp19 (pe + 1) 0 _ (by omega) (by omega) hG hf
  exact lp2 (pe + 1) 0 _ _ _ (by omega) (by omega) (fun q hq => absurd hq (by omega)) hG hf
def mbN (Hi : Nat → Nat) (q i : Nat) : Bool := tb q i && decide (Hi i &&& q = 0)
theorem c_mayBeFirst (g : Gx) (n : Nat) (w : Wd) {k pe b v od : Nat} {Lo Be Pa Ra Ti Wk Hi Odr : Nat → Nat} {Pk : Nat → Int32} (hG : GR w k pe b v Lo Be Pa Ra Ti Wk Hi Pk Odr od) {i q : Nat} (hi : i < pe) (hq : q < 256) : CT g yX1_mayBeFirst cX1_mayBeFirst 3 (some .boolean) rm_X1_mayBeFirst n n w [.ref k, .int (nI i), .int (nI q)] (Rv (.int (bz (mbN Hi q i))) w) := by
  have hzz := hG.2.2.2.2.2.2.2.2.2.2.2.2.2.2.2.2.2.2
  refine CT.start [some (.ref k), some (.int (nI i)), some (.int (nI q))] (by decide +kernel) rfl (Nat.le_of_ble_eq_true rfl) (fun x C hnm => ?_)
  refine ww_iload1 C dX1_mayBeFirst_0 ?_
  refine ww_iload2 C dX1_mayBeFirst_1 ?_
  refine ww_cSN2v C (c_isOf g n w _ _ (by omega) (by omega)) kSN_X1_84 ⟨Nat.le_of_ble_eq_true rfl, Nat.le_of_ble_eq_true rfl⟩ ⟨rfl, rfl⟩ ⟨Nat.le_of_ble_eq_true rfl, Nat.le_of_ble_eq_true rfl⟩ (Nat.le_of_ble_eq_true rfl) dX1_mayBeFirst_2 ?_
  refine ww_ifeqB C (tgt := 23) dX1_mayBeFirst_5 (by decide) (fun c5 => ?_) (fun c5 => ?_)
  · skip
    refine ww_iconst C (v := nI 0) dX1_mayBeFirst_23 (by decide) ?_
    exact ww_rz C dX1_mayBeFirst_24 rfl ⟨Nat.le_of_ble_eq_true rfl, Nat.le_of_ble_eq_true rfl⟩ (by unfold mbN; rw [c5]; rfl) rfl
  · skip
    refine ww_aload0 C dX1_mayBeFirst_8 ?_
    refine ww_getf C fl_X1_41 hG.1 rfl dX1_mayBeFirst_9 ?_
    refine ww_iload1 C dX1_mayBeFirst_12 ?_
    refine ww_ialdN C hG.2.2.2.2.2.2.2.1 (by omega) dX1_mayBeFirst_13 (kk := ?_)
    refine ww_iload2 C dX1_mayBeFirst_14 ?_
    refine ww_iandN C dX1_mayBeFirst_15 ?_
    refine ww_ifneN C (by have := Nat.and_le_right (n := Hi i) (m := q); omega) (tgt := 23) dX1_mayBeFirst_16 (by decide) (fun c16 => ?_) (fun c16 => ?_)
    · skip
      refine ww_iconst C (v := nI 0) dX1_mayBeFirst_23 (by decide) ?_
      exact ww_rz C dX1_mayBeFirst_24 rfl ⟨Nat.le_of_ble_eq_true rfl, Nat.le_of_ble_eq_true rfl⟩ (by unfold mbN; rw [decide_eq_false c16, Bool.and_false]; rfl) rfl
    · skip
      refine ww_iconst C (v := nI 1) dX1_mayBeFirst_19 (by decide) ?_
      refine ww_goto C (tgt := 24) dX1_mayBeFirst_20 (by decide) ?_
      exact ww_rz C dX1_mayBeFirst_24 rfl ⟨Nat.le_of_ble_eq_true rfl, Nat.le_of_ble_eq_true rfl⟩ (by unfold mbN; rw [c5, decide_eq_true c16]; rfl) rfl
theorem c_nothing (g : Gx) (n : Nat) (w : Wd) {k pe b v od : Nat} {Lo Be Pa Ra Ti Wk Hi Odr : Nat → Nat} {Pk : Nat → Int32} (hG : GR w k pe b v Lo Be Pa Ra Ti Wk Hi Pk Odr od) : CT g yX1_nothingPacked cX1_nothingPacked 1 (some .int) rm_X1_nothingPacked n n w [.ref k] (Rv (.int (nI b)) w) := by
  refine CT.start [some (.ref k)] (by decide +kernel) rfl (Nat.le_of_ble_eq_true rfl) (fun x C hnm => ?_)
  refine ww_aload0 C dX1_nothingPacked_0 ?_
  refine ww_getf C fl_X1_15 hG.1 rfl dX1_nothingPacked_1 ?_
  exact ww_ri C dX1_nothingPacked_4 rfl ⟨Nat.le_of_ble_eq_true rfl, Nat.le_of_ble_eq_true rfl⟩ rfl rfl
def pkd (b lo q : Nat) : Nat := if lo ≤ b then (if q % 16 + lo ≤ b then q + lo else (q / 16 + 1) * 16 + lo) else (q / 16 + (lo + b - 1) / b) * 16 + b
def jnd (b a c : Nat) : Nat := if b < a % 16 + c % 16 then a / 16 + c / 16 else a / 16 + c / 16 - 1
theorem dv_le {a b : Nat} (hb : 1 ≤ b) : (a + b - 1) / b ≤ a := by
  rcases Nat.eq_zero_or_pos a with h | h
  · subst h
    rw [Nat.div_eq_of_lt (by omega)]
    exact Nat.le_refl _
  · have h2 : (a + b - 1) / b ≤ (a * b) / b := Nat.div_le_div_right (by
      have : a * b = (a - 1) * b + b := by rw [← Nat.succ_mul]; congr 1; omega
      have h3 : a - 1 ≤ (a - 1) * b := Nat.le_mul_of_pos_right _ hb
      omega)
    rwa [Nat.mul_div_cancel _ (by omega)] at h2
theorem dv_pos {a b : Nat} (ha : 1 ≤ a) (hb : 1 ≤ b) : 1 ≤ (a + b - 1) / b := Nat.div_pos (by omega) (by omega)
theorem pkd_le {b lo q : Nat} (hb : 1 ≤ b) (hb2 : b ≤ 12) (hlo : lo ≤ 20) : pkd b lo q ≤ q + 340 := by
  have := dv_le (a := lo) hb
  unfold pkd
  repeat' split
  all_goals omega
theorem pkd_ge {b lo q : Nat} (hb : 1 ≤ b) (hb2 : b ≤ 12) (hlo : 1 ≤ lo) (hq : q = b ∨ 16 ≤ q) : 16 ≤ pkd b lo q := by
  have := dv_pos (a := lo) hlo hb
  unfold pkd
  repeat' split
  all_goals omega
theorem c_packed (g : Gx) (n : Nat) (w : Wd) {k pe b v od : Nat} {Lo Be Pa Ra Ti Wk Hi Odr : Nat → Nat} {Pk : Nat → Int32} (hG : GR w k pe b v Lo Be Pa Ra Ti Wk Hi Pk Odr od) {q i : Nat} (hb1 : 1 ≤ b) (hi : i < pe) (hq : q ≤ 1000000) : CT g yX1_packed cX1_packed 5 (some .int) rm_X1_packed n n w [.ref k, .int (nI q), .int (nI i)] (Rv (.int (nI (pkd b (Lo i) q))) w) := by
  have hzz := hG.2.2.2.2.2.2.2.2.2.2.2.2.2.2.2.2.2.2
  have hLi := hG.2.2.2.2.2.2.2.2.2.2.1 i
  refine CT.start [some (.ref k), some (.int (nI q)), some (.int (nI i)), none, none] (by decide +kernel) rfl (Nat.le_of_ble_eq_true rfl) (fun x C hnm => ?_)
  refine ww_iload1 C dX1_packed_0 ?_
  refine ww_bipush C (v := nI 16) dX1_packed_1 (by decide) ?_
  refine ww_idivN C (by omega) dX1_packed_3 ?_
  refine ww_istore3 C dX1_packed_4 (by decide) rfl ?_
  refine ww_iload1 C dX1_packed_5 ?_
  refine ww_bipush C (v := nI 16) dX1_packed_6 (by decide) ?_
  refine ww_iremN C (by omega) dX1_packed_8 ?_
  refine ww_istore4 C dX1_packed_9 (by decide) rfl ?_
  refine ww_aload0 C dX1_packed_11 ?_
  refine ww_getf C fl_X1_21 hG.1 rfl dX1_packed_12 ?_
  refine ww_iload2 C dX1_packed_15 ?_
  refine ww_ialdN C hG.2.1 (by omega) dX1_packed_16 (kk := ?_)
  refine ww_aload0 C dX1_packed_17 ?_
  refine ww_getf C fl_X1_15 hG.1 rfl dX1_packed_18 ?_
  refine ww_icmpleN C (by omega) (tgt := 45) dX1_packed_21 (by decide) (fun c21 => ?_) (fun c21 => ?_)
  · skip
    refine ww_iload4 C dX1_packed_45 ?_
    refine ww_aload0 C dX1_packed_47 ?_
    refine ww_getf C fl_X1_21 hG.1 rfl dX1_packed_48 ?_
    refine ww_iload2 C dX1_packed_51 ?_
    refine ww_ialdN C hG.2.1 (by omega) dX1_packed_52 (kk := ?_)
    refine ww_iaddN C dX1_packed_53 ?_
    refine ww_aload0 C dX1_packed_54 ?_
    refine ww_getf C fl_X1_15 hG.1 rfl dX1_packed_55 ?_
    refine ww_icmpleN C (by omega) (tgt := 75) dX1_packed_58 (by decide) (fun c58 => ?_) (fun c58 => ?_)
    · skip
      refine ww_iload1 C dX1_packed_75 ?_
      refine ww_aload0 C dX1_packed_76 ?_
      refine ww_getf C fl_X1_21 hG.1 rfl dX1_packed_77 ?_
      refine ww_iload2 C dX1_packed_80 ?_
      refine ww_ialdN C hG.2.1 (by omega) dX1_packed_81 (kk := ?_)
      refine ww_iaddN C dX1_packed_82 ?_
      exact ww_ri C dX1_packed_83 rfl ⟨Nat.le_of_ble_eq_true rfl, Nat.le_of_ble_eq_true rfl⟩ (by unfold pkd; rw [if_pos c21, if_pos c58]) rfl
    · skip
      refine ww_iload3 C dX1_packed_61 ?_
      refine ww_iconst C (v := nI 1) dX1_packed_62 (by decide) ?_
      refine ww_iaddN C dX1_packed_63 ?_
      refine ww_bipush C (v := nI 16) dX1_packed_64 (by decide) ?_
      refine ww_imulN C dX1_packed_66 ?_
      refine ww_aload0 C dX1_packed_67 ?_
      refine ww_getf C fl_X1_21 hG.1 rfl dX1_packed_68 ?_
      refine ww_iload2 C dX1_packed_71 ?_
      refine ww_ialdN C hG.2.1 (by omega) dX1_packed_72 (kk := ?_)
      refine ww_iaddN C dX1_packed_73 ?_
      exact ww_ri C dX1_packed_74 rfl ⟨Nat.le_of_ble_eq_true rfl, Nat.le_of_ble_eq_true rfl⟩ (by unfold pkd; rw [if_pos c21, if_neg (by omega)]) rfl
  · skip
    refine ww_iload3 C dX1_packed_24 ?_
    refine ww_aload0 C dX1_packed_25 ?_
    refine ww_aload0 C dX1_packed_26 ?_
    refine ww_getf C fl_X1_21 hG.1 rfl dX1_packed_27 ?_
    refine ww_iload2 C dX1_packed_30 ?_
    refine ww_ialdN C hG.2.1 (by omega) dX1_packed_31 (kk := ?_)
    refine ww_cV1v C hG.1 rfl (c_breathsFor g n w hG hb1 (by omega)) kV_X1_88 ⟨Nat.le_of_ble_eq_true rfl, Nat.le_of_ble_eq_true rfl⟩ ⟨rfl, rfl⟩ ⟨Nat.le_of_ble_eq_true rfl, Nat.le_of_ble_eq_true rfl⟩ (Nat.le_of_ble_eq_true rfl) dX1_packed_32 ?_
    refine ww_iaddN C dX1_packed_35 ?_
    refine ww_bipush C (v := nI 16) dX1_packed_36 (by decide) ?_
    refine ww_imulN C dX1_packed_38 ?_
    refine ww_aload0 C dX1_packed_39 ?_
    refine ww_getf C fl_X1_15 hG.1 rfl dX1_packed_40 ?_
    refine ww_iaddN C dX1_packed_43 ?_
    exact ww_ri C dX1_packed_44 rfl ⟨Nat.le_of_ble_eq_true rfl, Nat.le_of_ble_eq_true rfl⟩ (by unfold pkd; rw [if_neg (by omega)]) rfl
theorem c_joined (g : Gx) (n : Nat) (w : Wd) {k pe b v od : Nat} {Lo Be Pa Ra Ti Wk Hi Odr : Nat → Nat} {Pk : Nat → Int32} (hG : GR w k pe b v Lo Be Pa Ra Ti Wk Hi Pk Odr od) {a c : Nat} (ha : a ≤ 1000000) (hc : c ≤ 1000000) (h16 : 16 ≤ a) : CT g yX1_joined cX1_joined 4 (some .int) rm_X1_joined n n w [.ref k, .int (nI a), .int (nI c)] (Rv (.int (nI (jnd b a c))) w) := by
  have hzz := hG.2.2.2.2.2.2.2.2.2.2.2.2.2.2.2.2.2.2
  refine CT.start [some (.ref k), some (.int (nI a)), some (.int (nI c)), none] (by decide +kernel) rfl (Nat.le_of_ble_eq_true rfl) (fun x C hnm => ?_)
  refine ww_iload1 C dX1_joined_0 ?_
  refine ww_bipush C (v := nI 16) dX1_joined_1 (by decide) ?_
  refine ww_idivN C (by omega) dX1_joined_3 ?_
  refine ww_iload2 C dX1_joined_4 ?_
  refine ww_bipush C (v := nI 16) dX1_joined_5 (by decide) ?_
  refine ww_idivN C (by omega) dX1_joined_7 ?_
  refine ww_iaddN C dX1_joined_8 ?_
  refine ww_istore3 C dX1_joined_9 (by decide) rfl ?_
  refine ww_iload1 C dX1_joined_10 ?_
  refine ww_bipush C (v := nI 16) dX1_joined_11 (by decide) ?_
  refine ww_iremN C (by omega) dX1_joined_13 ?_
  refine ww_iload2 C dX1_joined_14 ?_
  refine ww_bipush C (v := nI 16) dX1_joined_15 (by decide) ?_
  refine ww_iremN C (by omega) dX1_joined_17 ?_
  refine ww_iaddN C dX1_joined_18 ?_
  refine ww_aload0 C dX1_joined_19 ?_
  refine ww_getf C fl_X1_15 hG.1 rfl dX1_joined_20 ?_
  refine ww_icmpgtN C (by omega) (tgt := 32) dX1_joined_23 (by decide) (fun c23 => ?_) (fun c23 => ?_)
  · skip
    refine ww_iload3 C dX1_joined_32 ?_
    exact ww_ri C dX1_joined_33 rfl ⟨Nat.le_of_ble_eq_true rfl, Nat.le_of_ble_eq_true rfl⟩ (by unfold jnd; rw [if_pos c23]) rfl
  · skip
    refine ww_iload3 C dX1_joined_26 ?_
    refine ww_iconst C (v := nI 1) dX1_joined_27 (by decide) ?_
    refine ww_isubN C (by omega) dX1_joined_28 ?_
    refine ww_goto C (tgt := 33) dX1_joined_29 (by decide) ?_
    exact ww_ri C dX1_joined_33 rfl ⟨Nat.le_of_ble_eq_true rfl, Nat.le_of_ble_eq_true rfl⟩ (by unfold jnd; rw [if_neg (by omega)]) rfl
/-- the least of those chosen; none, if none is -/
def mnN (f : Nat → Nat) (c : Nat → Bool) : Nat → Option Nat
  | 0 => none
  | n + 1 => if c n = true then (match mnN f c n with
    | none => some (f n)
    | some a => some (min a (f n))) else mnN f c n
theorem mnN_f {f : Nat → Nat} {c : Nat → Bool} {n : Nat} (h : c n = false) : mnN f c (n + 1) = mnN f c n := by show (if c n = true then _ else _) = _; rw [if_neg (by rw [h]; decide)]
theorem mnN_n {f : Nat → Nat} {c : Nat → Bool} {n : Nat} (h : c n = true) (h2 : mnN f c n = none) : mnN f c (n + 1) = some (f n) := by show (if c n = true then _ else _) = _; rw [if_pos h, h2]
theorem mnN_s {f : Nat → Nat} {c : Nat → Bool} {n a : Nat} (h : c n = true) (h2 : mnN f c n = some a) : mnN f c (n + 1) = some (min a (f n)) := by show (if c n = true then _ else _) = _; rw [if_pos h, h2]
theorem mnN_le {f : Nat → Nat} {c : Nat → Bool} {B : Nat} : ∀ {n a : Nat}, (∀ i, i < n → c i = true → f i ≤ B) → mnN f c n = some a → a ≤ B
  | 0, a, _, h => by cases h
  | n + 1, a, hf, h => by
    cases hc : c n with
    | false => rw [mnN_f hc] at h; exact mnN_le (fun i hi => hf i (by omega)) h
    | true =>
      cases h2 : mnN f c n with
      | none => rw [mnN_n hc h2] at h; cases h; exact hf n (by omega) hc
      | some d => rw [mnN_s hc h2] at h; cases h; have := hf n (by omega) hc; omega
theorem mnN_some {f : Nat → Nat} {c : Nat → Bool} : ∀ {n i : Nat}, i < n → c i = true → ∃ a, mnN f c n = some a
  | 0, i, h, _ => absurd h (by omega)
  | n + 1, i, h, hc => by
    cases hn : c n with
    | false =>
      rw [mnN_f hn]
      exact mnN_some (i := i) (by rcases Nat.lt_or_ge i n with q | q; exact q; rw [show i = n by omega, hn] at hc; cases hc) hc
    | true =>
      cases h2 : mnN f c n with
      | none => exact ⟨_, mnN_n hn h2⟩
      | some d => exact ⟨_, mnN_s hn h2⟩
theorem mnN_c {f h : Nat → Nat} {c : Nat → Bool} : ∀ {n : Nat}, (∀ i, i < n → c i = true → f i = h i) → mnN f c n = mnN h c n
  | 0, _ => rfl
  | n + 1, e => by
    have ih := mnN_c (n := n) (fun i hi hc => e i (by omega) hc)
    cases hn : c n with
    | false => rw [mnN_f hn, mnN_f hn, ih]
    | true => show (if c n = true then _ else _) = (if c n = true then _ else _); rw [ih, e n (by omega) hn]
theorem mnN_d {f : Nat → Nat} {c d : Nat → Bool} : ∀ {n : Nat}, (∀ i, i < n → c i = d i) → mnN f c n = mnN f d n
  | 0, _ => rfl
  | n + 1, e => by
    have ih := mnN_d (f := f) (n := n) (fun i hi => e i (by omega))
    show (if c n = true then _ else _) = (if d n = true then _ else _)
    rw [ih, e n (by omega)]
theorem c_leastPacking (g : Gx) (n : Nat) (w : Wd) {k pe b v od : Nat} {Lo Be Pa Ra Ti Wk Hi Odr : Nat → Nat} {Pk : Nat → Int32} (hG : GR w k pe b v Lo Be Pa Ra Ti Wk Hi Pk Odr od) {q : Nat} {pc : Nat → Nat} (hb1 : 1 ≤ b) (hq : q < 256) (hB : ∀ s, pc s ≤ 100000) (hP : ∀ i, i < pe → mbN Hi q i = true → Pk (q ^^^ 2 ^ i) = nI (pc (q ^^^ 2 ^ i))) : CT g yX1_leastPacking cX1_leastPacking 5 (some .int) rm_X1_leastPacking n n w [.ref k, .int (nI q)] (Rv (.int (oI (mnN (fun i => pkd b (Lo i) (pc (q ^^^ 2 ^ i))) (mbN Hi q) pe))) w) := by
  have hzz := hG.2.2.2.2.2.2.2.2.2.2.2.2.2.2.2.2.2.2
  refine CT.start [some (.ref k), some (.int (nI q)), none, none, none] (by decide +kernel) rfl (Nat.le_of_ble_eq_true rfl) (fun x C hnm => ?_)
  refine ww_bipush C (v := -4) dX1_leastPacking_0 (by decide) ?_
  refine ww_istore2 C dX1_leastPacking_2 (by decide) rfl ?_
  refine ww_iconst C (v := nI 0) dX1_leastPacking_3 (by decide) ?_
  refine ww_istore3 C dX1_leastPacking_4 (by decide) rfl ?_
  have lp5 : ∀ (m : Nat) (i : Nat) (o : Option Nat) (z4 : Option Value), i ≤ pe → pe < i + m → o = mnN (fun i => pkd b (Lo i) (pc (q ^^^ 2 ^ i))) (mbN Hi q) i → WW g x 5 0 0 n w 5 [some (.ref k), some (.int (nI q)), some (.int (oI o)), some (.int (nI i)), z4] [] := by
    intro m
    induction m with
    | zero =>
      intro i o z4 hi0 hm ho
      exact absurd hm (by omega)
    | succ m ih5 =>
      intro i o z4 hi0 hm ho
      refine ww_iload3 C dX1_leastPacking_5 ?_
      refine ww_aload0 C dX1_leastPacking_6 ?_
      refine ww_getf C fl_X1_9 hG.1 rfl dX1_leastPacking_7 ?_
      refine ww_icmpgeN C (by omega) (tgt := 63) dX1_leastPacking_10 (by decide) (fun c10 => ?_) (fun c10 => ?_)
      · skip
        have e : pe = i := by omega
        subst e
        refine ww_iload2 C dX1_leastPacking_63 ?_
        exact ww_ri C dX1_leastPacking_64 rfl ⟨Nat.le_of_ble_eq_true rfl, Nat.le_of_ble_eq_true rfl⟩ (by rw [ho]) rfl
      · skip
        refine ww_aload0 C dX1_leastPacking_13 ?_
        refine ww_iload3 C dX1_leastPacking_14 ?_
        refine ww_iload1 C dX1_leastPacking_15 ?_
        refine ww_cV2v C hG.1 rfl (c_mayBeFirst g n w hG c10 hq) kV_X1_117 ⟨Nat.le_of_ble_eq_true rfl, Nat.le_of_ble_eq_true rfl⟩ ⟨rfl, rfl⟩ ⟨Nat.le_of_ble_eq_true rfl, Nat.le_of_ble_eq_true rfl⟩ (Nat.le_of_ble_eq_true rfl) dX1_leastPacking_16 ?_
        refine ww_ifeqB C (tgt := 57) dX1_leastPacking_19 (by decide) (fun c19 => ?_) (fun c19 => ?_)
        · skip
          refine ww_iincN3 C dX1_leastPacking_57 (by decide) rfl ?_
          refine ww_goto C (tgt := 5) dX1_leastPacking_60 (by decide) ?_
          exact ih5 (i + 1) o _ (by omega) (by omega) (by rw [mnN_f c19]; exact ho)
        · skip
          refine ww_aload0 C dX1_leastPacking_22 ?_
          refine ww_aload0 C dX1_leastPacking_23 ?_
          refine ww_getf C fl_X1_44 hG.1 rfl dX1_leastPacking_24 ?_
          refine ww_iload1 C dX1_leastPacking_27 ?_
          refine ww_iconst C (v := nI 1) dX1_leastPacking_28 (by decide) ?_
          refine ww_iload3 C dX1_leastPacking_29 ?_
          refine ww_shl1N C (by omega) dX1_leastPacking_30 ?_
          refine ww_ixorN C dX1_leastPacking_31 ?_
          refine ww_ialdR C hG.2.2.2.2.2.2.2.2.1 (x256 hq (by omega)) dX1_leastPacking_32 (kk := ?_)
          refine ww_topi (hP i c10 c19) ?_
          refine ww_iload3 C dX1_leastPacking_33 ?_
          have hpc := hB (q ^^^ 2 ^ i)
          have hpk := pkd_le (q := pc (q ^^^ 2 ^ i)) hb1 hzz.2.1 (hG.2.2.2.2.2.2.2.2.2.2.1 i)
          refine ww_cV2v C hG.1 rfl (c_packed g n w hG hb1 c10 (by omega)) kV_X1_120 ⟨Nat.le_of_ble_eq_true rfl, Nat.le_of_ble_eq_true rfl⟩ ⟨rfl, rfl⟩ ⟨Nat.le_of_ble_eq_true rfl, Nat.le_of_ble_eq_true rfl⟩ (Nat.le_of_ble_eq_true rfl) dX1_leastPacking_34 ?_
          refine ww_istore4 C dX1_leastPacking_37 (by decide) rfl ?_
          refine ww_iload2 C dX1_leastPacking_39 ?_
          rcases o with _ | a0
          · skip
            refine ww_bipush C (v := -4) dX1_leastPacking_40 (by decide) ?_
            refine ww_icmpne C (tgt := 50) dX1_leastPacking_42 (by decide) (fun c42 => ?_) (fun c42 => ?_)
            · skip
              exact absurd rfl c42
            · skip
              refine ww_iload4 C dX1_leastPacking_45 ?_
              refine ww_goto C (tgt := 56) dX1_leastPacking_47 (by decide) ?_
              refine ww_istore2 C dX1_leastPacking_56 (by decide) rfl ?_
              refine ww_iincN3 C dX1_leastPacking_57 (by decide) rfl ?_
              refine ww_goto C (tgt := 5) dX1_leastPacking_60 (by decide) ?_
              exact ih5 (i + 1) (some (pkd b (Lo i) (pc (q ^^^ 2 ^ i)))) _ (by omega) (by omega) (mnN_n c19 ho.symm).symm
          · skip
            have hal := mnN_le (B := 200000) (fun i hi hc => by have := hB (q ^^^ 2 ^ i); have := pkd_le (q := pc (q ^^^ 2 ^ i)) hb1 hzz.2.1 (hG.2.2.2.2.2.2.2.2.2.2.1 i); omega) ho.symm
            refine ww_topi (show oI (some a0) = nI a0 from rfl) ?_
            refine ww_bipush C (v := -4) dX1_leastPacking_40 (by decide) ?_
            refine ww_icmpne C (tgt := 50) dX1_leastPacking_42 (by decide) (fun c42 => ?_) (fun c42 => ?_)
            · skip
              refine ww_iload2 C dX1_leastPacking_50 ?_
              refine ww_topi (show oI (some a0) = nI a0 from rfl) ?_
              refine ww_iload4 C dX1_leastPacking_51 ?_
              refine ww_minN C (by omega) ml_X1_56 kj_min_s kj_math_i kj_min_c ⟨Nat.le_of_ble_eq_true rfl, Nat.le_of_ble_eq_true rfl⟩ ⟨Nat.le_of_ble_eq_true rfl, Nat.le_of_ble_eq_true rfl⟩ dX1_leastPacking_53 ?_
              refine ww_istore2 C dX1_leastPacking_56 (by decide) rfl ?_
              refine ww_iincN3 C dX1_leastPacking_57 (by decide) rfl ?_
              refine ww_goto C (tgt := 5) dX1_leastPacking_60 (by decide) ?_
              exact ih5 (i + 1) (some (min a0 (pkd b (Lo i) (pc (q ^^^ 2 ^ i))))) _ (by omega) (by omega) (mnN_s c19 ho.symm).symm
            · skip
              exact absurd c42 (oI_ne (by omega))
  exact lp5 (pe + 1) 0 none _ (by omega) (by omega) rfl
