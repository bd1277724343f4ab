theorem andn {a b : Nat} (ha : a < 256) : nI a &&& (nI b ^^^ (-1)) = nI (a &&& (255 ^^^ b)) := by
  have e1 : (-1 : Int32).toBitVec = BitVec.allOnes 32 := by decide
  apply Int32.toBitVec_inj.1
  show BitVec.ofNat 32 a &&& (BitVec.ofNat 32 b ^^^ (-1 : Int32).toBitVec) = BitVec.ofNat 32 (a &&& (255 ^^^ b))
  rw [e1]
  apply BitVec.eq_of_getLsbD_eq
  intro i hi
  simp only [BitVec.getLsbD_and, BitVec.getLsbD_xor, BitVec.getLsbD_ofNat, BitVec.getLsbD_allOnes, hi, decide_true, Bool.true_and, Nat.testBit_and, Nat.testBit_xor]
  by_cases h8 : i < 8
  · have t : ∀ i, i < 8 → Nat.testBit 255 i = true := by decide
    rw [t i h8]
    cases b.testBit i <;> rfl
  · have t : a.testBit i = false := Nat.testBit_lt_two_pow (Nat.lt_of_lt_of_le ha (Nat.le_trans (show 256 ≤ 2 ^ 8 by decide) (Nat.pow_le_pow_right (by decide) (by omega))))
    rw [t, Bool.false_and, Bool.false_and]
theorem tb_dif {a b i : Nat} (hi : i < 8) : tb (a &&& (255 ^^^ b)) i = (tb a i && !tb b i) := by
  have t : ∀ i, i < 8 → Nat.testBit 255 i = true := by decide
  unfold tb
  rw [Nat.testBit_and, Nat.testBit_xor, t i hi]
  cases b.testBit i <;> rfl
theorem dif_lt {a : Nat} (b : Nat) (ha : a < 256) : a &&& (255 ^^^ b) < 256 := Nat.lt_of_le_of_lt Nat.and_le_left ha
theorem or_gt0 : ∀ s, s < 256 → ∀ i, i < 8 → tb s i = false → s < s ||| 2 ^ i := by decide +kernel
theorem or_gt {s i : Nat} (hs : s < 256) (hi : i < 8) (h : tb s i = false) : s < s ||| 2 ^ i := or_gt0 s hs i hi h
theorem tb_or (s i j : Nat) : tb (s ||| 2 ^ i) j = (tb s j || decide (j = i)) := fb_bit_set s i j
theorem or_sub {d s i : Nat} (h : d &&& s = d) (hi : tb s i = true) : (d ||| 2 ^ i) &&& s = d ||| 2 ^ i := by
  apply Nat.eq_of_testBit_eq
  intro j
  have hj : (d &&& s).testBit j = d.testBit j := by rw [h]
  rw [Nat.testBit_and] at hj ⊢
  rw [fb_bit_set]
  by_cases e : j = i
  · subst e
    have : s.testBit j = true := hi
    rw [this, Bool.and_true]
  · rw [decide_eq_false e, Bool.or_false]
    exact hj
theorem sub_le {d s : Nat} (h : d &&& s = d) : d ≤ s := by rw [← h]; exact Nat.and_le_right
def nsB (A T Pa : Nat → Nat) (s d l i : Nat) : Bool := tb s i && (!tb d i && (decide (A (d ||| 2 ^ i) = 1) && decide (T (d ||| 2 ^ i) + Pa i ≤ l)))
theorem nsB_c {A B T U Pa : Nat → Nat} {s d l i : Nat} (h : tb s i = true → tb d i = false → A (d ||| 2 ^ i) = B (d ||| 2 ^ i) ∧ T (d ||| 2 ^ i) = U (d ||| 2 ^ i)) : nsB A T Pa s d l i = nsB B U Pa s d l i := by
  unfold nsB
  cases t : tb s i with
  | false => rfl
  | true =>
    cases t2 : tb d i with
    | true => rfl
    | false => rw [(h t t2).1, (h t t2).2]
theorem preN_c {b c : Nat → Bool} : ∀ {n : Nat}, (∀ i, i < n → b i = c i) → preN b n = preN c n
  | 0, _ => rfl
  | n + 1, h => by
    unfold preN
    rw [preN_c (fun i hi => h i (by omega)), h n (by omega)]
theorem fstN_c {b c : Nat → Bool} {n : Nat} (h : ∀ i, i < n → b i = c i) : fstN b n = fstN c n := by
  unfold fstN
  rw [preN_c (b := fun i => !b i) (c := fun i => !c i) (fun i hi => by rw [h i hi])]

theorem c_nextSaved (g : Gx) (n : Nat) (w : Wd) {k pe b v od : Nat} {Lo Be Pa Ra Ti Wk Hi Odr : Nat → Nat} {Pk : Nat → Int32} (hG : GR w k pe b v Lo Be Pa Ra Ti Wk Hi Pk Odr od) {d s l : Nat} (hd : d < 256) (hs : s < 256) (hl : l ≤ 999) : CT g yX1_nextSaved cX1_nextSaved 6 (some .int) rm_X1_nextSaved n n w [.ref k, .int (nI d), .int (nI s), .int (nI l)] (Rv (.int (oI (fstN (nsB Wk Ti Pa s d l) pe))) w) := by
  have hzz := hG.2.2.2.2.2.2.2.2.2.2.2.2.2.2.2.2.2.2
  refine CT.start [some (.ref k), some (.int (nI d)), some (.int (nI s)), some (.int (nI l)), none, none] (by decide +kernel) rfl (Nat.le_of_ble_eq_true rfl) (fun x C hnm => ?_)
  refine ww_iconst C (v := nI 0) dX1_nextSaved_0 (by decide) ?_
  refine ww_istore4 C dX1_nextSaved_1 (by decide) rfl ?_
  have lp3 : ∀ (m : Nat) (i : Nat) (z5 : Option Value), i ≤ pe → pe < i + m → (∀ j, j < i → nsB Wk Ti Pa s d l j = false) → WW g x 6 0 0 n w 3 [some (.ref k), some (.int (nI d)), some (.int (nI s)), some (.int (nI l)), some (.int (nI i)), z5] [] := by
    intro m
    induction m with
    | zero =>
      intro i z5 hi0 hm ha
      exact absurd hm (by omega)
    | succ m ih3 =>
      intro i z5 hi0 hm ha
      refine ww_iload4 C dX1_nextSaved_3 ?_
      refine ww_aload0 C dX1_nextSaved_5 ?_
      refine ww_getf C fl_X1_9 hG.1 rfl dX1_nextSaved_6 ?_
      refine ww_icmpgeN C (by omega) (tgt := 71) dX1_nextSaved_9 (by decide) (fun c9 => ?_) (fun c9 => ?_)
      · skip
        have e : pe = i := by omega
        subst e
        refine ww_bipush C (v := -4) dX1_nextSaved_71 (by decide) ?_
        exact ww_ri C dX1_nextSaved_73 rfl ⟨Nat.le_of_ble_eq_true rfl, Nat.le_of_ble_eq_true rfl⟩ (by rw [fstN_none ha]; rfl) rfl
      · skip
        refine ww_iload1 C dX1_nextSaved_12 ?_
        refine ww_iconst C (v := nI 1) dX1_nextSaved_13 (by decide) ?_
        refine ww_iload4 C dX1_nextSaved_14 ?_
        refine ww_shl1N C (by omega) dX1_nextSaved_16 ?_
        refine ww_iorN C dX1_nextSaved_17 ?_
        refine ww_istore5 C dX1_nextSaved_18 (by decide) rfl ?_
        refine ww_iload4 C dX1_nextSaved_20 ?_
        refine ww_iload2 C dX1_nextSaved_22 ?_
        refine ww_iload1 C dX1_nextSaved_23 ?_
        refine ww_iconst C (v := -1) dX1_nextSaved_24 (by decide) ?_
        refine ww_ixor C dX1_nextSaved_25 ?_
        refine ww_iand C dX1_nextSaved_26 ?_
        refine ww_topi (andn hs) ?_
        refine ww_cSN2v C (c_isOf g n w _ _ (by omega) (Nat.lt_trans (dif_lt d hs) (by decide))) kSN_X1_84 ⟨Nat.le_of_ble_eq_true rfl, Nat.le_of_ble_eq_true rfl⟩ ⟨rfl, rfl⟩ ⟨Nat.le_of_ble_eq_true rfl, Nat.le_of_ble_eq_true rfl⟩ (Nat.le_of_ble_eq_true rfl) dX1_nextSaved_27 ?_
        refine ww_topi (show bz _ = bz (tb s i && !tb d i) by rw [tb_dif (by omega)]) ?_
        refine ww_ifeqB C (tgt := 65) dX1_nextSaved_30 (by decide) (fun c30 => ?_) (fun c30 => ?_)
        · skip
          refine ww_iincN4 C dX1_nextSaved_65 (by decide) rfl ?_
          refine ww_goto C (tgt := 3) dX1_nextSaved_68 (by decide) ?_
          exact ih3 (i + 1) _ (by omega) (by omega) (lt_s ha (by unfold nsB; rw [← Bool.and_assoc, c30]; rfl))
        · skip
          refine ww_aload0 C dX1_nextSaved_33 ?_
          refine ww_getf C fl_X1_37 hG.1 rfl dX1_nextSaved_34 ?_
          refine ww_iload5 C dX1_nextSaved_37 ?_
          refine ww_zaldN C hG.2.2.2.2.2.2.1 (o256 hd (by omega)) dX1_nextSaved_39 (kk := ?_)
          refine ww_ifeqN C (by have := hG.2.2.2.2.2.2.2.2.2.2.2.2.2.2.2.1 (d ||| 2 ^ i); omega) (tgt := 65) dX1_nextSaved_40 (by decide) (fun c40 => ?_) (fun c40 => ?_)
          · skip
            refine ww_iincN4 C dX1_nextSaved_65 (by decide) rfl ?_
            refine ww_goto C (tgt := 3) dX1_nextSaved_68 (by decide) ?_
            exact ih3 (i + 1) _ (by omega) (by omega) (lt_s ha (by unfold nsB; rw [decide_eq_false (show ¬ Wk (d ||| 2 ^ i) = 1 by omega), Bool.false_and, Bool.and_false, Bool.and_false]))
          · skip
            refine ww_aload0 C dX1_nextSaved_43 ?_
            refine ww_getf C fl_X1_34 hG.1 rfl dX1_nextSaved_44 ?_
            refine ww_iload5 C dX1_nextSaved_47 ?_
            refine ww_ialdN C hG.2.2.2.2.2.1 (o256 hd (by omega)) dX1_nextSaved_49 (kk := ?_)
            refine ww_aload0 C dX1_nextSaved_50 ?_
            refine ww_getf C fl_X1_28 hG.1 rfl dX1_nextSaved_51 ?_
            refine ww_iload4 C dX1_nextSaved_54 ?_
            refine ww_ialdN C hG.2.2.2.1 (by omega) dX1_nextSaved_56 (kk := ?_)
            refine ww_iaddN C dX1_nextSaved_57 ?_
            refine ww_iload3 C dX1_nextSaved_58 ?_
            refine ww_icmpgtN C (by have := hG.2.2.2.2.2.2.2.2.2.2.2.2.2.2.1 (d ||| 2 ^ i); have := hG.2.2.2.2.2.2.2.2.2.2.2.2.1 i; omega) (tgt := 65) dX1_nextSaved_59 (by decide) (fun c59 => ?_) (fun c59 => ?_)
            · skip
              refine ww_iincN4 C dX1_nextSaved_65 (by decide) rfl ?_
              refine ww_goto C (tgt := 3) dX1_nextSaved_68 (by decide) ?_
              exact ih3 (i + 1) _ (by omega) (by omega) (lt_s ha (by unfold nsB; rw [decide_eq_false (show ¬ Ti (d ||| 2 ^ i) + Pa i ≤ l by omega), Bool.and_false, Bool.and_false, Bool.and_false]))
            · skip
              refine ww_iload4 C dX1_nextSaved_62 ?_
              exact ww_ri C dX1_nextSaved_64 rfl ⟨Nat.le_of_ble_eq_true rfl, Nat.le_of_ble_eq_true rfl⟩ (by rw [fstN_some ha (by unfold nsB; rw [← Bool.and_assoc, c30, decide_eq_true (show Wk (d ||| 2 ^ i) = 1 by have := hG.2.2.2.2.2.2.2.2.2.2.2.2.2.2.2.1 (d ||| 2 ^ i); omega), decide_eq_true c59]; rfl) c9]; rfl) rfl
  exact lp3 (pe + 1) 0 none (by omega) (by omega) (fun j hj => absurd hj (by omega))
/-- from which sets one can go on to all of s -/
def folF (p : Nat) (Pa cr : Nat → Nat) (l s : Nat) (A : Nat → Nat) (m : Nat) : Nat := if (s - m) &&& s = s - m ∧ (s - m = s ∨ anyN (nsB (fun e => A (s - e)) cr Pa s (s - m) l) p = true) then 1 else 0
def foN (p : Nat) (Pa cr : Nat → Nat) (l s d : Nat) : Nat := cov (folF p Pa cr l s) (s - d)
theorem folF_loc {p : Nat} (hp : p ≤ 8) (Pa cr : Nat → Nat) (l : Nat) {s : Nat} (hs : s < 256) : locF (folF p Pa cr l s) := by
  intro A B m h
  unfold folF
  by_cases c : s - m = s
  · rw [c]
    by_cases c2 : s &&& s = s
    · rw [if_pos ⟨c2, Or.inl rfl⟩, if_pos ⟨c2, Or.inl rfl⟩]
    · rw [if_neg (fun q => c2 q.1), if_neg (fun q => c2 q.1)]
  · have e : anyN (nsB (fun e => A (s - e)) cr Pa s (s - m) l) p = anyN (nsB (fun e => B (s - e)) cr Pa s (s - m) l) p := anyN_c (fun i hi => nsB_c (fun h1 h2 => ⟨by
      have := or_gt (s := s - m) (i := i) (by omega) (by omega) h2
      exact h _ (by omega), rfl⟩))
    rw [e]
theorem foN_eq {p : Nat} (hp : p ≤ 8) (Pa cr : Nat → Nat) (l : Nat) {s d : Nat} (hs : s < 256) (hd : d ≤ s) : foN p Pa cr l s d = if d &&& s = d ∧ (d = s ∨ anyN (nsB (foN p Pa cr l s) cr Pa s d l) p = true) then 1 else 0 := by
  have h := (cov_eq (folF_loc hp Pa cr l hs) (A := cov (folF p Pa cr l s)) (n := s - d) (fun _ _ => rfl)).symm
  unfold foN
  rw [h]
  unfold folF
  rw [show s - (s - d) = d by omega]
theorem foN_1 {p : Nat} (hp : p ≤ 8) {Pa cr : Nat → Nat} {l s d : Nat} (hs : s < 256) (h : d &&& s = d) (h2 : d = s ∨ anyN (nsB (foN p Pa cr l s) cr Pa s d l) p = true) : foN p Pa cr l s d = 1 := by
  rw [foN_eq hp Pa cr l hs (sub_le h), if_pos ⟨h, h2⟩]
theorem foN_0 {p : Nat} (hp : p ≤ 8) {Pa cr : Nat → Nat} {l s d : Nat} (hs : s < 256) (hd : d ≤ s) (h : ¬ (d &&& s = d ∧ (d = s ∨ anyN (nsB (foN p Pa cr l s) cr Pa s d l) p = true))) : foN p Pa cr l s d = 0 := by
  rw [foN_eq hp Pa cr l hs hd, if_neg h]
/-- who is called k-th, and who has been by then -/
def dnN (p : Nat) (Pa cr : Nat → Nat) (l s : Nat) : Nat → Nat
  | 0 => 0
  | c + 1 => match fstN (nsB (foN p Pa cr l s) cr Pa s (dnN p Pa cr l s c) l) p with
    | some i => dnN p Pa cr l s c ||| 2 ^ i
    | none => dnN p Pa cr l s c
theorem nsB_t {A T Pa : Nat → Nat} {s d l i : Nat} (h : nsB A T Pa s d l i = true) : tb s i = true ∧ tb d i = false ∧ A (d ||| 2 ^ i) = 1 ∧ T (d ||| 2 ^ i) + Pa i ≤ l := by
  unfold nsB at h
  rw [Bool.and_eq_true, Bool.and_eq_true, Bool.and_eq_true, decide_eq_true_eq, decide_eq_true_eq] at h
  exact ⟨h.1, by simpa using h.2.1, h.2.2.1, h.2.2.2⟩
theorem dnN_sub (p : Nat) (Pa cr : Nat → Nat) (l s : Nat) : ∀ c, dnN p Pa cr l s c &&& s = dnN p Pa cr l s c
  | 0 => Nat.zero_and s
  | c + 1 => by
    have ih := dnN_sub p Pa cr l s c
    unfold dnN
    split
    · rename_i i hq
      exact or_sub ih (nsB_t (fstN_spec hq).2.1).1
    · exact ih
theorem ns_tab {A T Pa cr F : Nat → Nat} {s d l p i : Nat} (hs : s < 256) (hsp : s < 2 ^ p) (hd : d &&& s = d) (hp : p ≤ 8) (hi : i < p) (hT : ∀ j, j < 2 ^ p → T j = cr j) (hW : ∀ e, d < e → e ≤ s → A e = F e) : nsB A T Pa s d l i = nsB F cr Pa s d l i := nsB_c (fun h1 h2 => by
  have hds := sub_le hd
  have a := or_gt (s := d) (i := i) (by omega) (by omega) h2
  have c := sub_le (or_sub hd h1)
  exact ⟨hW _ a c, hT _ (by omega)⟩)
theorem fstN_some2 {b : Nat → Bool} {n i : Nat} (h : i < n) (hb : b i = true) : ∃ q, fstN b n = some q := by
  cases hq : fstN b n with
  | some q => exact ⟨q, rfl⟩
  | none =>
    exfalso
    unfold fstN at hq
    by_cases c : preN (fun i => !b i) n < n
    · rw [if_pos c] at hq; cases hq
    · have e : preN (fun i => !b i) n = n := by have := preN_le (fun i => !b i) n; omega
      have := preN_all (fun i => !b i) n i (by omega)
      rw [hb] at this
      cases this
theorem c_orderWarning (g : Gx) (n : Nat) (w : Wd) {k pe b v od : Nat} {Lo Be Pa Ra Ti Wk Hi Odr : Nat → Nat} {Pk : Nat → Int32} (hG : GR w k pe b v Lo Be Pa Ra Ti Wk Hi Pk Odr od) {s l : Nat} (hs : s < 256) (hsp : s < 2 ^ pe) (hl : l ≤ 999) (hT : ∀ j, j < 2 ^ pe → Ti j = (cryN pe Lo Be b v) j) : CT g yX1_orderWarning cX1_orderWarning 6 none rm_X1_orderWarning n n w [.ref k, .int (nI s), .int (nI l)] (R0q (fun w1 => ∃ Wk2 Or2 od2, GR w1 k pe b v Lo Be Pa Ra Ti Wk2 Hi Pk Or2 od2 ∧ (∀ j, j < od2 → fstN (nsB (foN pe Pa (cryN pe Lo Be b v) l s) (cryN pe Lo Be b v) Pa s (dnN pe Pa (cryN pe Lo Be b v) l s j) l) pe = some (Or2 j) ∧ ¬ (dnN pe Pa (cryN pe Lo Be b v) l s j) = s) ∧ ((dnN pe Pa (cryN pe Lo Be b v) l s od2) = s ∨ fstN (nsB (foN pe Pa (cryN pe Lo Be b v) l s) (cryN pe Lo Be b v) Pa s (dnN pe Pa (cryN pe Lo Be b v) l s od2) l) pe = none ∨ od2 = 8) ∧ fr w w1 k (k + 10))) := by
  have hf : fr w w k (k + 10) := fr.rf
  have hzz := hG.2.2.2.2.2.2.2.2.2.2.2.2.2.2.2.2.2.2
  refine CT.start [some (.ref k), some (.int (nI s)), some (.int (nI l)), none, none, none] (by decide +kernel) rfl (Nat.le_of_ble_eq_true rfl) (fun x C hnm => ?_)
  refine ww_iload1 C dX1_orderWarning_0 ?_
  skip
  refine ww_topi (show nI s = nI (s + 1) - 1 from (nI_pred s).symm) ?_
  refine ww_istore3 C dX1_orderWarning_1 (by decide) rfl ?_
  have lp2 : ∀ (m : Nat) (c : Nat) (Wk2 : Nat → Nat) (u : Wd) (z4 z5 : Option Value), c ≤ s + 1 → c < m → (∀ e, c ≤ e → e ≤ s → Wk2 e = (foN pe Pa (cryN pe Lo Be b v) l s) e) → GR u k pe b v Lo Be Pa Ra Ti Wk2 Hi Pk Odr od → fr w u k (k + 10) → WW g x 6 0 0 n u 2 [some (.ref k), some (.int (nI s)), some (.int (nI l)), some (.int (nI c - 1)), z4, z5] [] := by
    intro m
    induction m with
    | zero =>
      intro c Wk2 u z4 z5 hc0 hm hW hG hf
      exact absurd hm (by omega)
    | succ m ih2 =>
      intro c Wk2 u z4 z5 hc0 hm hW hG hf
      rcases c with _ | d
      · skip
        refine ww_iload3 C dX1_orderWarning_2 ?_
        refine ww_iflt C (tgt := 59) dX1_orderWarning_3 (by decide) (fun c3 => ?_) (fun c3 => ?_)
        · skip
          refine ww_aload0 C dX1_orderWarning_59 ?_
          refine ww_iconst C (v := nI 0) dX1_orderWarning_60 (by decide) ?_
          refine ww_putI C fl_X1_50 hG.1 (Nat.le_of_ble_eq_true rfl) rfl dX1_orderWarning_61 (fun w1 hw1 => ?_)
          have hf : fr w w1 k (k + 10) := hf.tr (fr.up hw1 (by omega) (by omega))
          have hzz := hG.2.2.2.2.2.2.2.2.2.2.2.2.2.2.2.2.2.2
          have hG := hG.setO hw1 (by omega)
          refine ww_iconst C (v := nI 0) dX1_orderWarning_64 (by decide) ?_
          refine ww_istore3 C dX1_orderWarning_65 (by decide) rfl ?_
          refine ww_iconst C (v := nI 0) dX1_orderWarning_66 (by decide) ?_
          refine ww_istore4 C dX1_orderWarning_67 (by decide) rfl ?_
          have lp69 : ∀ (m : Nat) (c d2 : Nat) (Or2 : Nat → Nat) (u : Wd) (z5 : Option Value), c ≤ 8 → 8 < c + m → d2 = (dnN pe Pa (cryN pe Lo Be b v) l s c) → (∀ j, j < c → fstN (nsB (foN pe Pa (cryN pe Lo Be b v) l s) (cryN pe Lo Be b v) Pa s (dnN pe Pa (cryN pe Lo Be b v) l s j) l) pe = some (Or2 j) ∧ ¬ (dnN pe Pa (cryN pe Lo Be b v) l s j) = s) → GR u k pe b v Lo Be Pa Ra Ti Wk2 Hi Pk Or2 c → fr w u k (k + 10) → WW g x 6 0 0 n u 69 [some (.ref k), some (.int (nI s)), some (.int (nI l)), some (.int (nI d2)), some (.int (nI c)), z5] [] := by
            intro m
            induction m with
            | zero =>
              intro c d2 Or2 u z5 hc0 hm hd2 ha hG hf
              exact absurd hm (by omega)
            | succ m ih69 =>
              intro c d2 Or2 u z5 hc0 hm hd2 ha hG hf
              have hdd : d2 &&& s = d2 := by rw [hd2]; exact dnN_sub _ _ _ _ _ _
              have hds := sub_le hdd
              have hW : ∀ e, 0 ≤ e → e ≤ s → Wk2 e = (foN pe Pa (cryN pe Lo Be b v) l s) e := hW
              refine ww_iload4 C dX1_orderWarning_69 ?_
              refine ww_bipush C (v := nI 8) dX1_orderWarning_71 (by decide) ?_
              refine ww_icmpgeN C (by omega) (tgt := 130) dX1_orderWarning_73 (by decide) (fun c73 => ?_) (fun c73 => ?_)
              · skip
                exact ww_rvq C dX1_orderWarning_130 rfl ⟨Nat.le_of_ble_eq_true rfl, Nat.le_of_ble_eq_true rfl⟩ ⟨Wk2, Or2, c, hG, ha, Or.inr (Or.inr (by omega)), hf⟩
              · skip
                refine ww_iload3 C dX1_orderWarning_76 ?_
                refine ww_iload1 C dX1_orderWarning_77 ?_
                refine ww_icmpeqN C (by omega) (tgt := 130) dX1_orderWarning_78 (by decide) (fun c78 => ?_) (fun c78 => ?_)
                · skip
                  exact ww_rvq C dX1_orderWarning_130 rfl ⟨Nat.le_of_ble_eq_true rfl, Nat.le_of_ble_eq_true rfl⟩ ⟨Wk2, Or2, c, hG, ha, Or.inl (by rw [← hd2]; exact c78), hf⟩
                · skip
                  refine ww_aload0 C dX1_orderWarning_81 ?_
                  refine ww_iload3 C dX1_orderWarning_82 ?_
                  refine ww_iload1 C dX1_orderWarning_83 ?_
                  refine ww_iload2 C dX1_orderWarning_84 ?_
                  refine ww_cV3v C hG.1 rfl (c_nextSaved g n u hG (by omega) hs hl) kV_X1_102 ⟨Nat.le_of_ble_eq_true rfl, Nat.le_of_ble_eq_true rfl⟩ ⟨rfl, rfl⟩ ⟨Nat.le_of_ble_eq_true rfl, Nat.le_of_ble_eq_true rfl⟩ (Nat.le_of_ble_eq_true rfl) dX1_orderWarning_85 ?_
                  have hcc : fstN (nsB Wk2 Ti Pa s d2 l) pe = fstN (nsB (foN pe Pa (cryN pe Lo Be b v) l s) (cryN pe Lo Be b v) Pa s d2 l) pe := fstN_c (fun i hi => ns_tab hs hsp hdd hzz.1 hi hT (fun e a1 a2 => hW e (by omega) a2))
                  rw [hcc]
                  rcases hq : fstN (nsB (foN pe Pa (cryN pe Lo Be b v) l s) (cryN pe Lo Be b v) Pa s d2 l) pe with _ | i0
                  · skip
                    refine ww_istore5 C dX1_orderWarning_88 (by decide) rfl ?_
                    refine ww_iload5 C dX1_orderWarning_90 ?_
                    refine ww_bipush C (v := -4) dX1_orderWarning_92 (by decide) ?_
                    refine ww_icmpne C (tgt := 98) dX1_orderWarning_94 (by decide) (fun c94 => ?_) (fun c94 => ?_)
                    · skip
                      exact absurd rfl c94
                    · skip
                      exact ww_rvq C dX1_orderWarning_97 rfl ⟨Nat.le_of_ble_eq_true rfl, Nat.le_of_ble_eq_true rfl⟩ ⟨Wk2, Or2, c, hG, ha, Or.inr (Or.inl (by rw [← hd2]; exact hq)), hf⟩
                  · skip
                    have hi0 := (fstN_spec hq).1
                    refine ww_topi (show oI (some i0) = nI i0 from rfl) ?_
                    refine ww_istore5 C dX1_orderWarning_88 (by decide) rfl ?_
                    refine ww_iload5 C dX1_orderWarning_90 ?_
                    refine ww_bipush C (v := -4) dX1_orderWarning_92 (by decide) ?_
                    refine ww_icmpne C (tgt := 98) dX1_orderWarning_94 (by decide) (fun c94 => ?_) (fun c94 => ?_)
                    · skip
                      refine ww_aload0 C dX1_orderWarning_98 ?_
                      refine ww_getf C fl_X1_47 hG.1 rfl dX1_orderWarning_99 ?_
                      refine ww_iload4 C dX1_orderWarning_102 ?_
                      refine ww_iload5 C dX1_orderWarning_104 ?_
                      refine ww_iastN C hG.2.2.2.2.2.2.2.2.2.1 (by omega) dX1_orderWarning_106 (kk := fun w2 hw2 => ?_)
                      have hf : fr w w2 k (k + 10) := hf.tr (fr.up hw2 (by omega) (by omega))
                      have hG := hG.setOdr hw2 (up_le hG.2.2.2.2.2.2.2.2.2.2.2.2.2.2.2.2.2.1 (by omega))
                      refine ww_aload0 C dX1_orderWarning_107 ?_
                      refine ww_dup C dX1_orderWarning_108 rfl ?_
                      refine ww_getf C fl_X1_50 hG.1 rfl dX1_orderWarning_109 ?_
                      refine ww_iconst C (v := nI 1) dX1_orderWarning_112 (by decide) ?_
                      refine ww_iaddN C dX1_orderWarning_113 ?_
                      refine ww_putI C fl_X1_50 hG.1 (Nat.le_of_ble_eq_true rfl) rfl dX1_orderWarning_114 (fun w3 hw3 => ?_)
                      have hf : fr w w3 k (k + 10) := hf.tr (fr.up hw3 (by omega) (by omega))
                      have hzz := hG.2.2.2.2.2.2.2.2.2.2.2.2.2.2.2.2.2.2
                      have hG := hG.setO hw3 (by omega)
                      refine ww_iload3 C dX1_orderWarning_117 ?_
                      refine ww_iconst C (v := nI 1) dX1_orderWarning_118 (by decide) ?_
                      refine ww_iload5 C dX1_orderWarning_119 ?_
                      refine ww_shl1N C (by omega) dX1_orderWarning_121 ?_
                      refine ww_iorN C dX1_orderWarning_122 ?_
                      refine ww_istore3 C dX1_orderWarning_123 (by decide) rfl ?_
                      refine ww_iincN4 C dX1_orderWarning_124 (by decide) rfl ?_
                      refine ww_goto C (tgt := 69) dX1_orderWarning_127 (by decide) ?_
                      exact ih69 (c + 1) _ _ _ _ (by omega) (by omega) (by show _ = match fstN (nsB (foN pe Pa (cryN pe Lo Be b v) l s) (cryN pe Lo Be b v) Pa s (dnN pe Pa (cryN pe Lo Be b v) l s c) l) pe with | some i => (dnN pe Pa (cryN pe Lo Be b v) l s c) ||| 2 ^ i | none => (dnN pe Pa (cryN pe Lo Be b v) l s c); rw [← hd2, hq]) (lt_s (fun j hj => by rw [va_upd_ne _ _ (by omega)]; exact ha j hj) ⟨by rw [va_upd_self, ← hd2]; exact hq, by rw [← hd2]; exact c78⟩) hG hf
                    · skip
                      exact absurd c94 (oI_ne (by omega))
          exact lp69 (9) 0 0 _ _ _ (by omega) (by omega) rfl (fun j hj => absurd hj (by omega)) hG hf
        · skip
          exact absurd (by decide) c3
      · skip
        rw [nI_pred]
        refine ww_iload3 C dX1_orderWarning_2 ?_
        refine ww_iflt C (tgt := 59) dX1_orderWarning_3 (by decide) (fun c3 => ?_) (fun c3 => ?_)
        · skip
          exact absurd c3 (nI_pos (by omega))
        · skip
          refine ww_iload3 C dX1_orderWarning_6 ?_
          refine ww_iload1 C dX1_orderWarning_7 ?_
          refine ww_iandN C dX1_orderWarning_8 ?_
          refine ww_iload3 C dX1_orderWarning_9 ?_
          refine ww_icmpneN C (by have := Nat.and_le_left (n := d) (m := s); omega) (tgt := 17) dX1_orderWarning_10 (by decide) (fun c10 => ?_) (fun c10 => ?_)
          · skip
            refine ww_iconst C (v := nI 0) dX1_orderWarning_17 (by decide) ?_
            refine ww_istore4 C dX1_orderWarning_18 (by decide) rfl ?_
            refine ww_aload0 C dX1_orderWarning_20 ?_
            refine ww_getf C fl_X1_37 hG.1 rfl dX1_orderWarning_21 ?_
            refine ww_iload3 C dX1_orderWarning_24 ?_
            refine ww_iload4 C dX1_orderWarning_25 ?_
            refine ww_ifeqN C (by decide) (tgt := 51) dX1_orderWarning_27 (by decide) (fun c27 => ?_) (fun c27 => ?_)
            · skip
              refine ww_iconst C (v := nI 0) dX1_orderWarning_51 (by decide) ?_
              refine ww_zastN C hG.2.2.2.2.2.2.1 (by omega) (by omega) dX1_orderWarning_52 (kk := fun w4 hw4 => ?_)
              have hf : fr w w4 k (k + 10) := hf.tr (fr.up hw4 (by omega) (by omega))
              have hG := hG.setWk hw4 (up_le hG.2.2.2.2.2.2.2.2.2.2.2.2.2.2.2.1 (by first | omega | (split <;> omega)))
              refine ww_iinc3 C (u := nI d - 1) dX1_orderWarning_53 (dec1 _) (by decide) rfl ?_
              refine ww_goto C (tgt := 2) dX1_orderWarning_56 (by decide) ?_
              exact ih2 d _ _ _ _ (by omega) (by omega) (fun e h1 h2 => by by_cases q : e = d; (rw [q, va_upd_self]; exact (foN_0 hzz.1 hs (by omega) (fun q => c10 q.1)).symm); (rw [va_upd_ne _ _ q]; exact hW e (by omega) h2)) hG hf
            · skip
              exact absurd rfl c27
          · skip
            refine ww_iconst C (v := nI 1) dX1_orderWarning_13 (by decide) ?_
            refine ww_goto C (tgt := 18) dX1_orderWarning_14 (by decide) ?_
            refine ww_istore4 C dX1_orderWarning_18 (by decide) rfl ?_
            refine ww_aload0 C dX1_orderWarning_20 ?_
            refine ww_getf C fl_X1_37 hG.1 rfl dX1_orderWarning_21 ?_
            refine ww_iload3 C dX1_orderWarning_24 ?_
            refine ww_iload4 C dX1_orderWarning_25 ?_
            refine ww_ifeqN C (by decide) (tgt := 51) dX1_orderWarning_27 (by decide) (fun c27 => ?_) (fun c27 => ?_)
            · skip
              cases c27
            · skip
              refine ww_iload3 C dX1_orderWarning_30 ?_
              refine ww_iload1 C dX1_orderWarning_31 ?_
              refine ww_icmpeqN C (by omega) (tgt := 47) dX1_orderWarning_32 (by decide) (fun c32 => ?_) (fun c32 => ?_)
              · skip
                refine ww_iconst C (v := nI 1) dX1_orderWarning_47 (by decide) ?_
                refine ww_goto C (tgt := 52) dX1_orderWarning_48 (by decide) ?_
                refine ww_zastN C hG.2.2.2.2.2.2.1 (by omega) (by omega) dX1_orderWarning_52 (kk := fun w5 hw5 => ?_)
                have hf : fr w w5 k (k + 10) := hf.tr (fr.up hw5 (by omega) (by omega))
                have hG := hG.setWk hw5 (up_le hG.2.2.2.2.2.2.2.2.2.2.2.2.2.2.2.1 (by first | omega | (split <;> omega)))
                refine ww_iinc3 C (u := nI d - 1) dX1_orderWarning_53 (dec1 _) (by decide) rfl ?_
                refine ww_goto C (tgt := 2) dX1_orderWarning_56 (by decide) ?_
                exact ih2 d _ _ _ _ (by omega) (by omega) (fun e h1 h2 => by by_cases q : e = d; (rw [q, va_upd_self]; exact (foN_1 hzz.1 hs c10 (Or.inl c32)).symm); (rw [va_upd_ne _ _ q]; exact hW e (by omega) h2)) hG hf
              · skip
                refine ww_aload0 C dX1_orderWarning_35 ?_
                refine ww_iload3 C dX1_orderWarning_36 ?_
                refine ww_iload1 C dX1_orderWarning_37 ?_
                refine ww_iload2 C dX1_orderWarning_38 ?_
                refine ww_cV3v C hG.1 rfl (c_nextSaved g n u hG (by omega) hs hl) kV_X1_102 ⟨Nat.le_of_ble_eq_true rfl, Nat.le_of_ble_eq_true rfl⟩ ⟨rfl, rfl⟩ ⟨Nat.le_of_ble_eq_true rfl, Nat.le_of_ble_eq_true rfl⟩ (Nat.le_of_ble_eq_true rfl) dX1_orderWarning_39 ?_
                rcases hq : fstN (nsB Wk2 Ti Pa s d l) pe with _ | i0
                · skip
                  refine ww_bipush C (v := -4) dX1_orderWarning_42 (by decide) ?_
                  refine ww_icmpeq C (tgt := 51) dX1_orderWarning_44 (by decide) (fun c44 => ?_) (fun c44 => ?_)
                  · skip
                    refine ww_iconst C (v := nI 0) dX1_orderWarning_51 (by decide) ?_
                    refine ww_zastN C hG.2.2.2.2.2.2.1 (by omega) (by omega) dX1_orderWarning_52 (kk := fun w6 hw6 => ?_)
                    have hf : fr w w6 k (k + 10) := hf.tr (fr.up hw6 (by omega) (by omega))
                    have hG := hG.setWk hw6 (up_le hG.2.2.2.2.2.2.2.2.2.2.2.2.2.2.2.1 (by first | omega | (split <;> omega)))
                    refine ww_iinc3 C (u := nI d - 1) dX1_orderWarning_53 (dec1 _) (by decide) rfl ?_
                    refine ww_goto C (tgt := 2) dX1_orderWarning_56 (by decide) ?_
                    exact ih2 d _ _ _ _ (by omega) (by omega) (fun e h1 h2 => by by_cases q : e = d; (rw [q, va_upd_self]; exact (foN_0 hzz.1 hs (by omega) (fun q => q.2.elim c32 (fun q2 => by obtain ⟨i, h1, h2⟩ := anyN_e q2; have h3 : nsB Wk2 Ti Pa s d l i = true := (ns_tab hs hsp c10 hzz.1 h1 hT (fun e a1 a2 => hW e (by omega) a2)).trans h2; have h4 := fstN_some2 h1 h3; rw [hq] at h4; cases h4.choose_spec))).symm); (rw [va_upd_ne _ _ q]; exact hW e (by omega) h2)) hG hf
                  · skip
                    exact absurd rfl c44
                · skip
                  have hi0 := (fstN_spec hq).1
                  refine ww_topi (show oI (some i0) = nI i0 from rfl) ?_
                  refine ww_bipush C (v := -4) dX1_orderWarning_42 (by decide) ?_
                  refine ww_icmpeq C (tgt := 51) dX1_orderWarning_44 (by decide) (fun c44 => ?_) (fun c44 => ?_)
                  · skip
                    exact absurd c44 (oI_ne (by omega))
                  · skip
                    refine ww_iconst C (v := nI 1) dX1_orderWarning_47 (by decide) ?_
                    refine ww_goto C (tgt := 52) dX1_orderWarning_48 (by decide) ?_
                    refine ww_zastN C hG.2.2.2.2.2.2.1 (by omega) (by omega) dX1_orderWarning_52 (kk := fun w7 hw7 => ?_)
                    have hf : fr w w7 k (k + 10) := hf.tr (fr.up hw7 (by omega) (by omega))
                    have hG := hG.setWk hw7 (up_le hG.2.2.2.2.2.2.2.2.2.2.2.2.2.2.2.1 (by first | omega | (split <;> omega)))
                    refine ww_iinc3 C (u := nI d - 1) dX1_orderWarning_53 (dec1 _) (by decide) rfl ?_
                    refine ww_goto C (tgt := 2) dX1_orderWarning_56 (by decide) ?_
                    exact ih2 d _ _ _ _ (by omega) (by omega) (fun e h1 h2 => by by_cases q : e = d; (rw [q, va_upd_self]; exact (foN_1 hzz.1 hs c10 (Or.inr (anyN_t hi0 ((ns_tab hs hsp c10 hzz.1 hi0 hT (fun e a1 a2 => hW e (by omega) a2)).symm.trans (fstN_spec hq).2.1)))).symm); (rw [va_upd_ne _ _ q]; exact hW e (by omega) h2)) hG hf
  exact lp2 (s + 2) (s + 1) _ _ _ _ (by omega) (by omega) (fun e h1 h2 => absurd h1 (by omega)) hG hf
