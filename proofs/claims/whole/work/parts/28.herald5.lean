theorem exMax (f : Nat → Nat) (b : Nat → Bool) : ∀ n, (∃ i, i < n ∧ b i = true) → ∃ i, i < n ∧ b i = true ∧ ∀ j, j < n → b j = true → f j ≤ f i
  | 0, ⟨i, h, _⟩ => absurd h (by omega)
  | n + 1, ⟨i, h, hb⟩ => by
    by_cases e : ∃ i, i < n ∧ b i = true
    · obtain ⟨q, h1, h2, h3⟩ := exMax f b n e
      cases hn : b n with
      | false =>
        exact ⟨q, by omega, h2, fun j hj hbj => by
          rcases Nat.lt_or_ge j n with c | c
          · exact h3 j c hbj
          · rw [show j = n by omega, hn] at hbj; cases hbj⟩
      | true =>
        rcases Nat.lt_or_ge (f q) (f n) with c | c
        · exact ⟨n, by omega, hn, fun j hj hbj => by
            rcases Nat.lt_or_ge j n with c2 | c2
            · have := h3 j c2 hbj; omega
            · rw [show j = n by omega]; exact Nat.le_refl _⟩
        · exact ⟨q, by omega, h2, fun j hj hbj => by
            rcases Nat.lt_or_ge j n with c2 | c2
            · exact h3 j c2 hbj
            · rw [show j = n by omega]; exact c⟩
    · have hi : i = n := by
        rcases Nat.lt_or_ge i n with c | c
        · exact absurd ⟨i, c, hb⟩ e
        · omega
      subst hi
      exact ⟨i, by omega, hb, fun j hj hbj => by
        rcases Nat.lt_or_ge j i with c | c
        · exact absurd ⟨j, c, hbj⟩ e
        · rw [show j = i by omega]; exact Nat.le_refl _⟩
theorem ne_bit {s p : Nat} (hs : s < 2 ^ p) (h0 : ¬ s = 0) : ∃ i, i < p ∧ tb s i = true := by
  apply Classical.byContradiction
  intro h
  apply h0
  apply Nat.eq_of_testBit_eq
  intro j
  rw [Nat.zero_testBit]
  rcases Nat.lt_or_ge j p with c | c
  · cases e : s.testBit j with
    | false => rfl
    | true => exact absurd ⟨j, c, e⟩ h
  · exact Nat.testBit_lt_two_pow (Nat.lt_of_lt_of_le hs (Nat.pow_le_pow_right (by decide) c))
theorem and_00 {a s : Nat} (h : ∀ j, tb a j = true → tb s j = false) : a &&& s = 0 := by
  apply Nat.eq_of_testBit_eq
  intro j
  rw [Nat.zero_testBit, Nat.testBit_and]
  cases e : a.testBit j with
  | false => rfl
  | true => rw [show s.testBit j = false from h j e]; rfl
/-- one of those left may be greeted first -/
theorem mb_ex {Ra Hi : Nat → Nat} {p s q : Nat} (hHi : ∀ i, i < p → Hi i = hiN Ra p s i) (hq : q < 2 ^ p) (h0 : ¬ q = 0) : ∃ i, i < p ∧ mbN Hi q i = true := by
  obtain ⟨i, h1, h2, h3⟩ := exMax Ra (tb q) p (ne_bit hq h0)
  refine ⟨i, h1, ?_⟩
  unfold mbN
  rw [h2, hHi i h1, decide_eq_true (and_00 (fun j hj => ?_))]
  · rfl
  · unfold hiN at hj
    rw [hgN_tb, Bool.and_eq_true, Bool.and_eq_true, decide_eq_true_eq, decide_eq_true_eq] at hj
    cases e : tb q j with
    | false => rfl
    | true => have := h3 j hj.1 e; omega
def pcF (p b : Nat) (Lo Hi : Nat → Nat) (A : Nat → Nat) (s : Nat) : Nat := if s = 0 then b else if 256 ≤ s then 0 else (mnN (fun i => pkd b (Lo i) (A (s ^^^ 2 ^ i))) (mbN Hi s) p).getD 0
theorem mb_tb {Hi : Nat → Nat} {s i : Nat} (h : mbN Hi s i = true) : tb s i = true := by
  unfold mbN at h
  rw [Bool.and_eq_true] at h
  exact h.1
theorem pcF_loc {p : Nat} (hp : p ≤ 8) (b : Nat) (Lo Hi : Nat → Nat) : locF (pcF p b Lo Hi) := by
  intro A B s h
  unfold pcF
  by_cases c : s = 0
  · rw [if_pos c, if_pos c]
  · rw [if_neg c, if_neg c]
    by_cases c2 : 256 ≤ s
    · rw [if_pos c2, if_pos c2]
    · rw [if_neg c2, if_neg c2]
      rw [mnN_c (fun i hi hc => by rw [h _ (xor_bit (by omega) (by omega) (mb_tb hc))])]
/-- the least packing of a set that is left last -/
def pcN (p b : Nat) (Lo Hi : Nat → Nat) (s : Nat) : Nat := cov (pcF p b Lo Hi) s
theorem pcN_eq {p : Nat} (hp : p ≤ 8) (b : Nat) (Lo Hi : Nat → Nat) (s : Nat) : pcN p b Lo Hi s = pcF p b Lo Hi (pcN p b Lo Hi) s := (cov_eq (pcF_loc hp b Lo Hi) (A := cov (pcF p b Lo Hi)) (n := s) (fun _ _ => rfl)).symm
theorem pcN_le {p b : Nat} {Lo Hi : Nat → Nat} (hp : p ≤ 8) (hb1 : 1 ≤ b) (hb : b ≤ 12) (hL : ∀ i, Lo i ≤ 20) : ∀ s, pcN p b Lo Hi s ≤ 12 + 340 * s := by
  intro s
  induction s using Nat.strongRecOn with
  | ind s ih =>
    rw [pcN_eq hp]
    unfold pcF
    by_cases c : s = 0
    · rw [if_pos c]; omega
    · rw [if_neg c]
      by_cases c2 : 256 ≤ s
      · rw [if_pos c2]; omega
      · rw [if_neg c2]
        cases e : mnN (fun i => pkd b (Lo i) (pcN p b Lo Hi (s ^^^ 2 ^ i))) (mbN Hi s) p with
        | none => exact Nat.zero_le _
        | some a =>
          show a ≤ _
          exact mnN_le (fun i hi hc => by
            have h1 := xor_bit (s := s) (i := i) (by omega) (by omega) (mb_tb hc)
            have h2 := ih _ h1
            have h3 := pkd_le (q := pcN p b Lo Hi (s ^^^ 2 ^ i)) hb1 hb (hL i)
            omega) e
theorem pcN_b {p b : Nat} {Lo Hi : Nat → Nat} (hp : p ≤ 8) (hb1 : 1 ≤ b) (hb : b ≤ 12) (hL : ∀ i, Lo i ≤ 20) (s : Nat) : pcN p b Lo Hi s ≤ 100000 := by
  rcases Nat.lt_or_ge s 256 with c | c
  · have := pcN_le (Hi := Hi) hp hb1 hb hL s; omega
  · rw [pcN_eq hp]
    unfold pcF
    rw [if_neg (by omega), if_pos c]
    omega
theorem xor_sub {s q i : Nat} (h : q &&& s = q) (hi : tb q i = true) : (q ^^^ 2 ^ i) &&& s = q ^^^ 2 ^ i := by
  apply Nat.eq_of_testBit_eq
  intro j
  have hj : (q &&& s).testBit j = q.testBit j := by rw [h]
  rw [Nat.testBit_and] at hj ⊢
  rw [fb_bit_flip]
  by_cases e : j = i
  · subst e
    have : q.testBit j = true := hi
    rw [this]
    simp
  · rw [decide_eq_false e, Bool.xor_false]
    exact hj
theorem mbN_c {Hi Hj : Nat → Nat} {q i : Nat} (h : Hi i = Hj i) : mbN Hi q i = mbN Hj q i := by unfold mbN; rw [h]
theorem cov_c {f h : (Nat → Nat) → Nat → Nat} (e : ∀ A n, f A n = h A n) (n : Nat) : cov f n = cov h n := by rw [show f = h from funext fun A => funext fun n => e A n]
theorem pcN_c {p b : Nat} {Lo Lp Hi Hj : Nat → Nat} (h : ∀ i, i < p → Hi i = Hj i) (hL : ∀ i, i < p → Lo i = Lp i) (s : Nat) : pcN p b Lo Hi s = pcN p b Lp Hj s := cov_c (fun A n => by
  unfold pcF
  rw [mnN_d (c := mbN Hi n) (d := mbN Hj n) (fun i hi => mbN_c (h i hi)), mnN_c (f := fun i => pkd b (Lo i) (A (n ^^^ 2 ^ i))) (h := fun i => pkd b (Lp i) (A (n ^^^ 2 ^ i))) (fun i hi _ => by rw [hL i hi])]) s
theorem c_fewest (g : Gx) (n : Nat) (w : Wd) {k pe b v od : Nat} {Lo Be Pa Ra Ti Wk Hi Odr : Nat → Nat} {Pk : Nat → Int32} (hG : GR w k pe b v Lo Be Pa Ra Ti Wk Hi Pk Odr od) {s : Nat} (hb1 : 1 ≤ b) (hs : s < 2 ^ pe) : CT g yX1_fewestBreaths cX1_fewestBreaths 3 (some .int) rm_X1_fewestBreaths n n w [.ref k, .int (nI s)] (Rq (.int (nI (pcN pe b Lo (hiN Ra pe s) s / 16))) (fun w1 => ∃ Hi2 Pk2, GR w1 k pe b v Lo Be Pa Ra Ti Wk Hi2 Pk2 Odr od ∧ (∀ q, q < pe → Hi2 q = hiN Ra pe s q) ∧ (∀ j, j ≤ s → j &&& s = j → Pk2 j = nI (pcN pe b Lo (hiN Ra pe s) j)) ∧ fr w w1 k (k + 10))) := by
  have hf : fr w w k (k + 10) := fr.rf
  have hzz := hG.2.2.2.2.2.2.2.2.2.2.2.2.2.2.2.2.2.2
  have h256 := p256 hzz.1
  refine CT.start [some (.ref k), some (.int (nI s)), none] (by decide +kernel) rfl (Nat.le_of_ble_eq_true rfl) (fun x C hnm => ?_)
  refine ww_aload0 C dX1_fewestBreaths_0 ?_
  refine ww_iload1 C dX1_fewestBreaths_1 ?_
  refine ww_cV10q C hG.1 rfl (c_rankAll g n w hG (by omega)) kV_X1_106 ⟨Nat.le_of_ble_eq_true rfl, Nat.le_of_ble_eq_true rfl⟩ ⟨rfl, rfl⟩ ⟨Nat.le_of_ble_eq_true rfl, Nat.le_of_ble_eq_true rfl⟩ (Nat.le_of_ble_eq_true rfl) dX1_fewestBreaths_2 (fun w1 hw1 => ?_)
  obtain ⟨Hi2, hG, hHi, hf⟩ := hw1
  refine ww_aload0 C dX1_fewestBreaths_5 ?_
  refine ww_getf C fl_X1_44 hG.1 rfl dX1_fewestBreaths_6 ?_
  refine ww_iconst C (v := nI 0) dX1_fewestBreaths_9 (by decide) ?_
  refine ww_aload0 C dX1_fewestBreaths_10 ?_
  refine ww_cV0v C hG.1 rfl (c_nothing g n w1 hG) kV_X1_110 ⟨Nat.le_of_ble_eq_true rfl, Nat.le_of_ble_eq_true rfl⟩ ⟨rfl, rfl⟩ ⟨Nat.le_of_ble_eq_true rfl, Nat.le_of_ble_eq_true rfl⟩ (Nat.le_of_ble_eq_true rfl) dX1_fewestBreaths_11 ?_
  refine ww_iastR C hG.2.2.2.2.2.2.2.2.1 (by omega) dX1_fewestBreaths_14 (kk := fun w2 hw2 => ?_)
  have hf : fr w w2 k (k + 10) := hf.tr (fr.up hw2 (by omega) (by omega))
  have hG := hG.setPk hw2
  refine ww_iconst C (v := nI 1) dX1_fewestBreaths_15 (by decide) ?_
  refine ww_istore2 C dX1_fewestBreaths_16 (by decide) rfl ?_
  have lp17 : ∀ (m : Nat) (q : Nat) (Pk2 : Nat → Int32) (u : Wd), 1 ≤ q → q ≤ s + 1 → s + 1 < q + m → (∀ j, j < q → j &&& s = j → Pk2 j = nI ((pcN pe b Lo Hi2) j)) → GR u k pe b v Lo Be Pa Ra Ti Wk Hi2 Pk2 Odr od → fr w u k (k + 10) → WW g x 3 0 0 n u 17 [some (.ref k), some (.int (nI s)), some (.int (nI q))] [] := by
    intro m
    induction m with
    | zero =>
      intro q Pk2 u hq1 hq2 hm hPk hG hf
      exact absurd hm (by omega)
    | succ m ih17 =>
      intro q Pk2 u hq1 hq2 hm hPk hG hf
      refine ww_iload2 C dX1_fewestBreaths_17 ?_
      refine ww_iload1 C dX1_fewestBreaths_18 ?_
      refine ww_icmpgtN C (by omega) (tgt := 51) dX1_fewestBreaths_19 (by decide) (fun c19 => ?_) (fun c19 => ?_)
      · skip
        refine ww_aload0 C dX1_fewestBreaths_51 ?_
        refine ww_getf C fl_X1_44 hG.1 rfl dX1_fewestBreaths_52 ?_
        refine ww_iload1 C dX1_fewestBreaths_55 ?_
        refine ww_ialdR C hG.2.2.2.2.2.2.2.2.1 (by omega) dX1_fewestBreaths_56 (kk := ?_)
        refine ww_topi (hPk s (by omega) (Nat.and_self s)) ?_
        refine ww_bipush C (v := nI 16) dX1_fewestBreaths_57 (by decide) ?_
        refine ww_idivN C (by have := pcN_b (Hi := Hi2) hzz.1 hb1 hzz.2.1 hG.2.2.2.2.2.2.2.2.2.2.1 s; omega) dX1_fewestBreaths_59 ?_
        exact ww_riq C dX1_fewestBreaths_60 rfl ⟨Nat.le_of_ble_eq_true rfl, Nat.le_of_ble_eq_true rfl⟩ (by rw [pcN_c hHi (fun _ _ => rfl)]) ⟨Hi2, Pk2, hG, hHi, fun j h1 h2 => by rw [← pcN_c hHi (fun _ _ => rfl)]; exact hPk j (by omega) h2, hf⟩
      · skip
        refine ww_aload0 C dX1_fewestBreaths_22 ?_
        refine ww_getf C fl_X1_44 hG.1 rfl dX1_fewestBreaths_23 ?_
        refine ww_iload2 C dX1_fewestBreaths_26 ?_
        refine ww_iload2 C dX1_fewestBreaths_27 ?_
        refine ww_iload1 C dX1_fewestBreaths_28 ?_
        refine ww_iandN C dX1_fewestBreaths_29 ?_
        refine ww_iload2 C dX1_fewestBreaths_30 ?_
        refine ww_icmpneN C (by have := Nat.and_le_left (n := q) (m := s); omega) (tgt := 42) dX1_fewestBreaths_31 (by decide) (fun c31 => ?_) (fun c31 => ?_)
        · skip
          refine ww_bipush C (v := -4) dX1_fewestBreaths_42 (by decide) ?_
          refine ww_iastR C hG.2.2.2.2.2.2.2.2.1 (by omega) dX1_fewestBreaths_44 (kk := fun w3 hw3 => ?_)
          have hf : fr w w3 k (k + 10) := hf.tr (fr.up hw3 (by omega) (by omega))
          have hG := hG.setPk hw3
          refine ww_iincN2 C dX1_fewestBreaths_45 (by decide) rfl ?_
          refine ww_goto C (tgt := 17) dX1_fewestBreaths_48 (by decide) ?_
          exact ih17 (q + 1) _ _ (by omega) (by omega) (by omega) (fun j h1 h2 => by by_cases q9 : j = q; (rw [q9] at h2 ⊢; exact absurd h2 c31); (rw [va_upd_ne _ _ q9]; exact hPk j (by omega) h2)) hG hf
        · skip
          refine ww_aload0 C dX1_fewestBreaths_34 ?_
          refine ww_iload2 C dX1_fewestBreaths_35 ?_
          refine ww_cV1v C hG.1 rfl (c_leastPacking g n u hG (pc := (pcN pe b Lo Hi2)) hb1 (by omega) (pcN_b hzz.1 hb1 hzz.2.1 hG.2.2.2.2.2.2.2.2.2.2.1) (fun i hi hc => hPk _ (xor_bit (by omega) (by omega) (mb_tb hc)) (xor_sub c31 (mb_tb hc)))) kV_X1_114 ⟨Nat.le_of_ble_eq_true rfl, Nat.le_of_ble_eq_true rfl⟩ ⟨rfl, rfl⟩ ⟨Nat.le_of_ble_eq_true rfl, Nat.le_of_ble_eq_true rfl⟩ (Nat.le_of_ble_eq_true rfl) dX1_fewestBreaths_36 ?_
          obtain ⟨i0, hi0, hm0⟩ := mb_ex hHi (q := q) (by omega) (by omega)
          obtain ⟨a0, ha0⟩ := mnN_some (f := fun i => pkd b (Lo i) ((pcN pe b Lo Hi2) (q ^^^ 2 ^ i))) hi0 hm0
          have ha1 : (pcN pe b Lo Hi2) q = a0 := by rw [pcN_eq hzz.1]; unfold pcF; rw [if_neg (by omega), if_neg (by omega), ha0]; rfl
          rw [ha0]
          refine ww_topi (show oI (some a0) = nI ((pcN pe b Lo Hi2) q) by rw [ha1]; rfl) ?_
          refine ww_goto C (tgt := 44) dX1_fewestBreaths_39 (by decide) ?_
          refine ww_iastR C hG.2.2.2.2.2.2.2.2.1 (by omega) dX1_fewestBreaths_44 (kk := fun w4 hw4 => ?_)
          have hf : fr w w4 k (k + 10) := hf.tr (fr.up hw4 (by omega) (by omega))
          have hG := hG.setPk hw4
          refine ww_iincN2 C dX1_fewestBreaths_45 (by decide) rfl ?_
          refine ww_goto C (tgt := 17) dX1_fewestBreaths_48 (by decide) ?_
          exact ih17 (q + 1) _ _ (by omega) (by omega) (by omega) (fun j h1 h2 => by by_cases q9 : j = q; (rw [q9] at h2 ⊢; rw [va_upd_self]); (rw [va_upd_ne _ _ q9]; exact hPk j (by omega) h2)) hG hf
  exact lp17 (s + 2) 1 _ _ (by omega) (by omega) (by omega) (fun j h1 h2 => by rw [show j = 0 by omega, va_upd_self, pcN_eq hzz.1]; rfl) hG hf
def ngB (b : Nat) (Lo Hi pc : Nat → Nat) (q x fe i : Nat) : Bool := mbN Hi q i && decide (jnd b (pkd b (Lo i) x) (pc (q ^^^ 2 ^ i)) = fe)
theorem c_nextGreeted (g : Gx) (n : Nat) (w : Wd) {k pe b v od : Nat} {Lo Be Pa Ra Ti Wk Hi Odr : Nat → Nat} {Pk : Nat → Int32} (hG : GR w k pe b v Lo Be Pa Ra Ti Wk Hi Pk Odr od) {q x0 fe : Nat} {pc : Nat → Nat} (hb1 : 1 ≤ b) (hq : q < 256) (hfe : fe ≤ 1000000) (hx : x0 = b ∨ 16 ≤ x0) (hx2 : x0 ≤ 100000) (hL : ∀ i, i < pe → 1 ≤ Lo i) (hB : ∀ s, pc s ≤ 100000) (hP : ∀ i, i < pe → mbN Hi q i = true → Pk (q ^^^ 2 ^ i) = nI (pc (q ^^^ 2 ^ i))) : CT g yX1_nextGreeted cX1_nextGreeted 5 (some .int) rm_X1_nextGreeted n n w [.ref k, .int (nI q), .int (nI x0), .int (nI fe)] (Rv (.int (oI (fstN (ngB b Lo Hi pc q x0 fe) pe))) w) := by
  have hzz := hG.2.2.2.2.2.2.2.2.2.2.2.2.2.2.2.2.2.2
  refine CT.start [some (.ref k), some (.int (nI q)), some (.int (nI x0)), some (.int (nI fe)), none] (by decide +kernel) rfl (Nat.le_of_ble_eq_true rfl) (fun x C hnm => ?_)
  refine ww_iconst C (v := nI 0) dX1_nextGreeted_0 (by decide) ?_
  refine ww_istore4 C dX1_nextGreeted_1 (by decide) rfl ?_
  have lp3 : ∀ (m : Nat) (i : Nat), i ≤ pe → pe < i + m → (∀ j, j < i → (ngB b Lo Hi pc q x0 fe) j = false) → WW g x 5 0 0 n w 3 [some (.ref k), some (.int (nI q)), some (.int (nI x0)), some (.int (nI fe)), some (.int (nI i))] [] := by
    intro m
    induction m with
    | zero =>
      intro i hi0 hm ha
      exact absurd hm (by omega)
    | succ m ih3 =>
      intro i hi0 hm ha
      refine ww_iload4 C dX1_nextGreeted_3 ?_
      refine ww_aload0 C dX1_nextGreeted_5 ?_
      refine ww_getf C fl_X1_9 hG.1 rfl dX1_nextGreeted_6 ?_
      refine ww_icmpgeN C (by omega) (tgt := 57) dX1_nextGreeted_9 (by decide) (fun c9 => ?_) (fun c9 => ?_)
      · skip
        have e : pe = i := by omega
        subst e
        refine ww_bipush C (v := -4) dX1_nextGreeted_57 (by decide) ?_
        exact ww_ri C dX1_nextGreeted_59 rfl ⟨Nat.le_of_ble_eq_true rfl, Nat.le_of_ble_eq_true rfl⟩ (by rw [fstN_none ha]; rfl) rfl
      · skip
        refine ww_aload0 C dX1_nextGreeted_12 ?_
        refine ww_iload4 C dX1_nextGreeted_13 ?_
        refine ww_iload1 C dX1_nextGreeted_15 ?_
        refine ww_cV2v C hG.1 rfl (c_mayBeFirst g n w hG c9 hq) kV_X1_117 ⟨Nat.le_of_ble_eq_true rfl, Nat.le_of_ble_eq_true rfl⟩ ⟨rfl, rfl⟩ ⟨Nat.le_of_ble_eq_true rfl, Nat.le_of_ble_eq_true rfl⟩ (Nat.le_of_ble_eq_true rfl) dX1_nextGreeted_16 ?_
        refine ww_ifeqB C (tgt := 51) dX1_nextGreeted_19 (by decide) (fun c19 => ?_) (fun c19 => ?_)
        · skip
          refine ww_iincN4 C dX1_nextGreeted_51 (by decide) rfl ?_
          refine ww_goto C (tgt := 3) dX1_nextGreeted_54 (by decide) ?_
          exact ih3 (i + 1) (by omega) (by omega) (lt_s ha (by unfold ngB; rw [c19]; rfl))
        · skip
          refine ww_aload0 C dX1_nextGreeted_22 ?_
          refine ww_aload0 C dX1_nextGreeted_23 ?_
          refine ww_iload2 C dX1_nextGreeted_24 ?_
          refine ww_iload4 C dX1_nextGreeted_25 ?_
          have hpk := pkd_le (q := x0) hb1 hzz.2.1 (hG.2.2.2.2.2.2.2.2.2.2.1 i)
          have hpg := pkd_ge (q := x0) hb1 hzz.2.1 (hL i c9) hx
          refine ww_cV2v C hG.1 rfl (c_packed g n w hG hb1 c9 (by omega)) kV_X1_120 ⟨Nat.le_of_ble_eq_true rfl, Nat.le_of_ble_eq_true rfl⟩ ⟨rfl, rfl⟩ ⟨Nat.le_of_ble_eq_true rfl, Nat.le_of_ble_eq_true rfl⟩ (Nat.le_of_ble_eq_true rfl) dX1_nextGreeted_27 ?_
          refine ww_aload0 C dX1_nextGreeted_30 ?_
          refine ww_getf C fl_X1_44 hG.1 rfl dX1_nextGreeted_31 ?_
          refine ww_iload1 C dX1_nextGreeted_34 ?_
          refine ww_iconst C (v := nI 1) dX1_nextGreeted_35 (by decide) ?_
          refine ww_iload4 C dX1_nextGreeted_36 ?_
          refine ww_shl1N C (by omega) dX1_nextGreeted_38 ?_
          refine ww_ixorN C dX1_nextGreeted_39 ?_
          refine ww_ialdR C hG.2.2.2.2.2.2.2.2.1 (x256 hq (by omega)) dX1_nextGreeted_40 (kk := ?_)
          refine ww_topi (hP i c9 c19) ?_
          have hpc := hB (q ^^^ 2 ^ i)
          refine ww_cV2v C hG.1 rfl (c_joined g n w hG (by omega) (by omega) hpg) kV_X1_126 ⟨Nat.le_of_ble_eq_true rfl, Nat.le_of_ble_eq_true rfl⟩ ⟨rfl, rfl⟩ ⟨Nat.le_of_ble_eq_true rfl, Nat.le_of_ble_eq_true rfl⟩ (Nat.le_of_ble_eq_true rfl) dX1_nextGreeted_41 ?_
          refine ww_iload3 C dX1_nextGreeted_44 ?_
          refine ww_icmpneN C (by unfold jnd; split <;> omega) (tgt := 51) dX1_nextGreeted_45 (by decide) (fun c45 => ?_) (fun c45 => ?_)
          · skip
            refine ww_iincN4 C dX1_nextGreeted_51 (by decide) rfl ?_
            refine ww_goto C (tgt := 3) dX1_nextGreeted_54 (by decide) ?_
            exact ih3 (i + 1) (by omega) (by omega) (lt_s ha (by unfold ngB; rw [decide_eq_false c45, Bool.and_false]))
          · skip
            refine ww_iload4 C dX1_nextGreeted_48 ?_
            exact ww_ri C dX1_nextGreeted_50 rfl ⟨Nat.le_of_ble_eq_true rfl, Nat.le_of_ble_eq_true rfl⟩ (by rw [fstN_some ha (by unfold ngB; rw [c19, decide_eq_true c45]; rfl) c9]; rfl) rfl
  exact lp3 (pe + 1) 0 (by omega) (by omega) (fun j hj => absurd hj (by omega))
/-- who is left, and how what went before is packed, behind k greetings -/
def ocN (p b : Nat) (Lo Hi pc : Nat → Nat) (s fe : Nat) : Nat → Nat × Nat
  | 0 => (s, b)
  | c + 1 => match fstN (ngB b Lo Hi pc (ocN p b Lo Hi pc s fe c).1 (ocN p b Lo Hi pc s fe c).2 fe) p with
    | some i => ((ocN p b Lo Hi pc s fe c).1 ^^^ 2 ^ i, pkd b (Lo i) (ocN p b Lo Hi pc s fe c).2)
    | none => ocN p b Lo Hi pc s fe c
theorem ocN_s {p b : Nat} {Lo Hi pc : Nat → Nat} {s fe c i : Nat} (h : fstN (ngB b Lo Hi pc (ocN p b Lo Hi pc s fe c).1 (ocN p b Lo Hi pc s fe c).2 fe) p = some i) : ocN p b Lo Hi pc s fe (c + 1) = ((ocN p b Lo Hi pc s fe c).1 ^^^ 2 ^ i, pkd b (Lo i) (ocN p b Lo Hi pc s fe c).2) := by
  conv => lhs; unfold ocN
  rw [h]
theorem ng_t {b : Nat} {Lo Hi pc : Nat → Nat} {q x0 fe i : Nat} (h : ngB b Lo Hi pc q x0 fe i = true) : mbN Hi q i = true := by
  unfold ngB at h
  rw [Bool.and_eq_true] at h
  exact h.1
theorem c_orderCouncil (g : Gx) (n : Nat) (w : Wd) {k pe b v od : Nat} {Lo Be Pa Ra Ti Wk Hi Odr : Nat → Nat} {Pk : Nat → Int32} (hG : GR w k pe b v Lo Be Pa Ra Ti Wk Hi Pk Odr od) {s fe : Nat} (hb1 : 1 ≤ b) (hs : s < 256) (hfe : fe ≤ 1000000) (hL : ∀ i, i < pe → 1 ≤ Lo i) (hPk : ∀ j, j ≤ s → j &&& s = j → Pk j = nI (pcN pe b Lo Hi j)) : CT g yX1_orderCouncil cX1_orderCouncil 7 none rm_X1_orderCouncil n n w [.ref k, .int (nI s), .int (nI fe)] (R0q (fun w1 => ∃ Or2 od2, GR w1 k pe b v Lo Be Pa Ra Ti Wk Hi Pk Or2 od2 ∧ (∀ j, j < od2 → fstN (ngB b Lo Hi (pcN pe b Lo Hi) (ocN pe b Lo Hi (pcN pe b Lo Hi) s fe j).1 (ocN pe b Lo Hi (pcN pe b Lo Hi) s fe j).2 fe) pe = some (Or2 j) ∧ ¬ (ocN pe b Lo Hi (pcN pe b Lo Hi) s fe j).1 = 0) ∧ ((ocN pe b Lo Hi (pcN pe b Lo Hi) s fe od2).1 = 0 ∨ fstN (ngB b Lo Hi (pcN pe b Lo Hi) (ocN pe b Lo Hi (pcN pe b Lo Hi) s fe od2).1 (ocN pe b Lo Hi (pcN pe b Lo Hi) s fe od2).2 fe) pe = none ∨ od2 = 8) ∧ fr w w1 k (k + 10))) := by
  have hf : fr w w k (k + 10) := fr.rf
  have hzz := hG.2.2.2.2.2.2.2.2.2.2.2.2.2.2.2.2.2.2
  refine CT.start [some (.ref k), some (.int (nI s)), some (.int (nI fe)), none, none, none, none] (by decide +kernel) rfl (Nat.le_of_ble_eq_true rfl) (fun x C hnm => ?_)
  refine ww_aload0 C dX1_orderCouncil_0 ?_
  refine ww_iconst C (v := nI 0) dX1_orderCouncil_1 (by decide) ?_
  refine ww_putI C fl_X1_50 hG.1 (Nat.le_of_ble_eq_true rfl) rfl dX1_orderCouncil_2 (fun w1 hw1 => ?_)
  have hf : fr w w1 k (k + 10) := hf.tr (fr.up hw1 (by omega) (by omega))
  have hzz := hG.2.2.2.2.2.2.2.2.2.2.2.2.2.2.2.2.2.2
  have hG := hG.setO hw1 (by omega)
  refine ww_iload1 C dX1_orderCouncil_5 ?_
  refine ww_istore3 C dX1_orderCouncil_6 (by decide) rfl ?_
  refine ww_aload0 C dX1_orderCouncil_7 ?_
  refine ww_cV0v C hG.1 rfl (c_nothing g n w1 hG) kV_X1_110 ⟨Nat.le_of_ble_eq_true rfl, Nat.le_of_ble_eq_true rfl⟩ ⟨rfl, rfl⟩ ⟨Nat.le_of_ble_eq_true rfl, Nat.le_of_ble_eq_true rfl⟩ (Nat.le_of_ble_eq_true rfl) dX1_orderCouncil_8 ?_
  refine ww_istore4 C dX1_orderCouncil_11 (by decide) rfl ?_
  refine ww_iconst C (v := nI 0) dX1_orderCouncil_13 (by decide) ?_
  refine ww_istore5 C dX1_orderCouncil_14 (by decide) rfl ?_
  have lp16 : ∀ (m : Nat) (c q x0 : Nat) (Or2 : Nat → Nat) (u : Wd) (z6 : Option Value), c ≤ 8 → 8 < c + m → (q, x0) = (ocN pe b Lo Hi (pcN pe b Lo Hi) s fe c) → q &&& s = q → (x0 = b ∨ 16 ≤ x0) → x0 ≤ 12 + 340 * c → (∀ j, j < c → fstN (ngB b Lo Hi (pcN pe b Lo Hi) (ocN pe b Lo Hi (pcN pe b Lo Hi) s fe j).1 (ocN pe b Lo Hi (pcN pe b Lo Hi) s fe j).2 fe) pe = some (Or2 j) ∧ ¬ (ocN pe b Lo Hi (pcN pe b Lo Hi) s fe j).1 = 0) → GR u k pe b v Lo Be Pa Ra Ti Wk Hi Pk Or2 c → fr w u k (k + 10) → WW g x 7 0 0 n u 16 [some (.ref k), some (.int (nI s)), some (.int (nI fe)), some (.int (nI q)), some (.int (nI x0)), some (.int (nI c)), z6] [] := by
    intro m
    induction m with
    | zero =>
      intro c q x0 Or2 u z6 hc0 hm he hqq hx hx2 ha hG hf
      exact absurd hm (by omega)
    | succ m ih16 =>
      intro c q x0 Or2 u z6 hc0 hm he hqq hx hx2 ha hG hf
      have hqs := sub_le hqq
      refine ww_iload5 C dX1_orderCouncil_16 ?_
      refine ww_bipush C (v := nI 8) dX1_orderCouncil_18 (by decide) ?_
      refine ww_icmpgeN C (by omega) (tgt := 87) dX1_orderCouncil_20 (by decide) (fun c20 => ?_) (fun c20 => ?_)
      · skip
        exact ww_rvq C dX1_orderCouncil_87 rfl ⟨Nat.le_of_ble_eq_true rfl, Nat.le_of_ble_eq_true rfl⟩ ⟨Or2, c, hG, ha, Or.inr (Or.inr (by omega)), hf⟩
      · skip
        refine ww_iload3 C dX1_orderCouncil_23 ?_
        refine ww_ifeqN C (by omega) (tgt := 87) dX1_orderCouncil_24 (by decide) (fun c24 => ?_) (fun c24 => ?_)
        · skip
          exact ww_rvq C dX1_orderCouncil_87 rfl ⟨Nat.le_of_ble_eq_true rfl, Nat.le_of_ble_eq_true rfl⟩ ⟨Or2, c, hG, ha, Or.inl (by rw [← he]; exact c24), hf⟩
        · skip
          refine ww_aload0 C dX1_orderCouncil_27 ?_
          refine ww_iload3 C dX1_orderCouncil_28 ?_
          refine ww_iload4 C dX1_orderCouncil_29 ?_
          refine ww_iload2 C dX1_orderCouncil_31 ?_
          refine ww_cV3v C hG.1 rfl (c_nextGreeted g n u hG (pc := pcN pe b Lo Hi) hb1 (by omega) hfe hx (by omega) hL (pcN_b hzz.1 hb1 hzz.2.1 hG.2.2.2.2.2.2.2.2.2.2.1) (fun i hi hc => hPk _ (Nat.le_trans (Nat.le_of_lt (xor_bit (by omega) (by omega) (mb_tb hc))) hqs) (xor_sub hqq (mb_tb hc)))) kV_X1_123 ⟨Nat.le_of_ble_eq_true rfl, Nat.le_of_ble_eq_true rfl⟩ ⟨rfl, rfl⟩ ⟨Nat.le_of_ble_eq_true rfl, Nat.le_of_ble_eq_true rfl⟩ (Nat.le_of_ble_eq_true rfl) dX1_orderCouncil_32 ?_
          rcases hq : fstN (ngB b Lo Hi (pcN pe b Lo Hi) q x0 fe) pe with _ | i0
          · skip
            refine ww_istore6 C dX1_orderCouncil_35 (by decide) rfl ?_
            refine ww_iload6 C dX1_orderCouncil_37 ?_
            refine ww_bipush C (v := -4) dX1_orderCouncil_39 (by decide) ?_
            refine ww_icmpne C (tgt := 45) dX1_orderCouncil_41 (by decide) (fun c41 => ?_) (fun c41 => ?_)
            · skip
              exact absurd rfl c41
            · skip
              exact ww_rvq C dX1_orderCouncil_44 rfl ⟨Nat.le_of_ble_eq_true rfl, Nat.le_of_ble_eq_true rfl⟩ ⟨Or2, c, hG, ha, Or.inr (Or.inl (by rw [← he]; exact hq)), hf⟩
          · skip
            have hi0 := (fstN_spec hq).1
            have hmb := ng_t (fstN_spec hq).2.1
            refine ww_topi (show oI (some i0) = nI i0 from rfl) ?_
            refine ww_istore6 C dX1_orderCouncil_35 (by decide) rfl ?_
            refine ww_iload6 C dX1_orderCouncil_37 ?_
            refine ww_bipush C (v := -4) dX1_orderCouncil_39 (by decide) ?_
            refine ww_icmpne C (tgt := 45) dX1_orderCouncil_41 (by decide) (fun c41 => ?_) (fun c41 => ?_)
            · skip
              refine ww_aload0 C dX1_orderCouncil_45 ?_
              refine ww_getf C fl_X1_47 hG.1 rfl dX1_orderCouncil_46 ?_
              refine ww_iload5 C dX1_orderCouncil_49 ?_
              refine ww_iload6 C dX1_orderCouncil_51 ?_
              refine ww_iastN C hG.2.2.2.2.2.2.2.2.2.1 (by omega) dX1_orderCouncil_53 (kk := fun w2 hw2 => ?_)
              have hf : fr w w2 k (k + 10) := hf.tr (fr.up hw2 (by omega) (by omega))
              have hG := hG.setOdr hw2 (up_le hG.2.2.2.2.2.2.2.2.2.2.2.2.2.2.2.2.2.1 (by omega))
              refine ww_aload0 C dX1_orderCouncil_54 ?_
              refine ww_dup C dX1_orderCouncil_55 rfl ?_
              refine ww_getf C fl_X1_50 hG.1 rfl dX1_orderCouncil_56 ?_
              refine ww_iconst C (v := nI 1) dX1_orderCouncil_59 (by decide) ?_
              refine ww_iaddN C dX1_orderCouncil_60 ?_
              refine ww_putI C fl_X1_50 hG.1 (Nat.le_of_ble_eq_true rfl) rfl dX1_orderCouncil_61 (fun w3 hw3 => ?_)
              have hf : fr w w3 k (k + 10) := hf.tr (fr.up hw3 (by omega) (by omega))
              have hzz := hG.2.2.2.2.2.2.2.2.2.2.2.2.2.2.2.2.2.2
              have hG := hG.setO hw3 (by omega)
              refine ww_aload0 C dX1_orderCouncil_64 ?_
              refine ww_iload4 C dX1_orderCouncil_65 ?_
              refine ww_iload6 C dX1_orderCouncil_67 ?_
              have hpk := pkd_le (q := x0) hb1 hzz.2.1 (hG.2.2.2.2.2.2.2.2.2.2.1 i0)
              have hpg := pkd_ge (q := x0) hb1 hzz.2.1 (hL i0 hi0) hx
              refine ww_cV2v C hG.1 rfl (c_packed g n w3 hG hb1 hi0 (by omega)) kV_X1_120 ⟨Nat.le_of_ble_eq_true rfl, Nat.le_of_ble_eq_true rfl⟩ ⟨rfl, rfl⟩ ⟨Nat.le_of_ble_eq_true rfl, Nat.le_of_ble_eq_true rfl⟩ (Nat.le_of_ble_eq_true rfl) dX1_orderCouncil_69 ?_
              refine ww_istore4 C dX1_orderCouncil_72 (by decide) rfl ?_
              refine ww_iload3 C dX1_orderCouncil_74 ?_
              refine ww_iconst C (v := nI 1) dX1_orderCouncil_75 (by decide) ?_
              refine ww_iload6 C dX1_orderCouncil_76 ?_
              refine ww_shl1N C (by omega) dX1_orderCouncil_78 ?_
              refine ww_ixorN C dX1_orderCouncil_79 ?_
              refine ww_istore3 C dX1_orderCouncil_80 (by decide) rfl ?_
              refine ww_iincN5 C dX1_orderCouncil_81 (by decide) rfl ?_
              refine ww_goto C (tgt := 16) dX1_orderCouncil_84 (by decide) ?_
              exact ih16 (c + 1) (q ^^^ 2 ^ i0) (pkd b (Lo i0) x0) (va_up Or2 c i0) _ _ (by omega) (by omega) (by rw [ocN_s (i := i0) (by rw [← he]; exact hq), ← he]) (xor_sub hqq (mb_tb hmb)) (Or.inr hpg) (Nat.le_trans hpk (by clear hpk hpg; omega)) (fun j hj => by by_cases ej : j = c; (subst ej; exact ⟨by rw [va_upd_self, ← he]; exact hq, by rw [← he]; exact c24⟩); (rw [va_upd_ne _ _ ej]; exact ha j (by omega))) hG hf
            · skip
              exact absurd c41 (oI_ne (by omega))
  exact lp16 (9) 0 s b _ _ _ (by omega) (by omega) rfl (Nat.and_self s) (Or.inl rfl) (by omega) (fun j hj => absurd hj (by omega)) hG hf
