theorem tb_x (s d i : Nat) : tb (s ^^^ d) i = (tb s i ^^ tb d i) := Nat.testBit_xor s d i
theorem x_in {s d i : Nat} (h : d &&& s = d) (ht : tb (s ^^^ d) i = true) : tb s i = true ∧ tb d i = false := by
  rw [tb_x] at ht
  have h2 := sub_tb h i
  revert ht h2
  cases tb s i <;> cases tb d i <;> simp
theorem x_of {s d i : Nat} (h1 : tb s i = true) (h2 : tb d i = false) : tb (s ^^^ d) i = true := by rw [tb_x, h1, h2]; rfl
theorem x_or {s d i : Nat} (hd : tb d i = false) : s ^^^ (d ||| 2 ^ i) = (s ^^^ d) ^^^ 2 ^ i := by
  apply Nat.eq_of_testBit_eq
  intro k
  have hd : d.testBit i = false := hd
  rw [Nat.testBit_xor, fb_bit_set, fb_bit_flip, Nat.testBit_xor]
  by_cases c : k = i
  · rw [c, hd]; cases s.testBit i <;> simp
  · simp [c]
theorem x_x (s d : Nat) : s ^^^ (s ^^^ d) = d := by
  apply Nat.eq_of_testBit_eq
  intro k
  rw [Nat.testBit_xor, Nat.testBit_xor]
  cases s.testBit k <;> cases d.testBit k <;> rfl
theorem x_sub {s d : Nat} (h : d &&& s = d) : (s ^^^ d) &&& s = s ^^^ d := by
  apply Nat.eq_of_testBit_eq
  intro k
  have h2 := sub_tb h k
  unfold tb at h2
  rw [Nat.testBit_and, Nat.testBit_xor]
  revert h2
  cases s.testBit k <;> cases d.testBit k <;> simp
theorem x_lt {s d p : Nat} (hs : s < 2 ^ p) (hd : d ≤ s) : s ^^^ d < 2 ^ p := Nat.xor_lt_two_pow hs (by omega)
theorem x_0 {s d : Nat} (h : s ^^^ d = 0) : d = s := by
  have := x_x s d
  rw [h, Nat.xor_zero] at this
  exact this.symm
def alN (c : Nat → Bool) : Nat → Bool
  | 0 => true
  | n + 1 => alN c n && c n
theorem alN_iff {c : Nat → Bool} : ∀ {n : Nat}, alN c n = true ↔ ∀ i, i < n → c i = true
  | 0 => ⟨fun _ i hi => absurd hi (Nat.not_lt_zero i), fun _ => rfl⟩
  | n + 1 => by
    show (alN c n && c n) = true ↔ _
    rw [Bool.and_eq_true, alN_iff]
    exact ⟨fun h i hi => by by_cases e : i = n; (rw [e]; exact h.2); (exact h.1 i (by omega)), fun h => ⟨fun i hi => h i (by omega), h n (by omega)⟩⟩
def gkB (Ra : Nat → Nat) (s d i j : Nat) : Bool := !tb s j || (tb d j || decide (Ra j ≤ Ra i))
theorem mg_mb {Ra : Nat → Nat} {p s d i : Nat} (hs : s < 2 ^ p) (h : d &&& s = d) : ((tb s i && !tb d i) && alN (gkB Ra s d i) p) = mbN (hiN Ra p s) (s ^^^ d) i := by
  have e1 : (tb s i && !tb d i) = tb (s ^^^ d) i := by
    rw [tb_x]
    have h2 := sub_tb h i
    revert h2
    cases tb s i <;> cases tb d i <;> simp
  unfold mbN
  rw [e1]
  congr 1
  apply Bool.eq_iff_iff.mpr
  rw [alN_iff, decide_eq_true_iff]
  constructor
  · intro h3
    apply and_00
    intro j hj
    unfold hiN at hj
    rw [hgN_tb, Bool.and_eq_true, Bool.and_eq_true, decide_eq_true_iff, decide_eq_true_iff] at hj
    apply Bool.eq_false_iff.mpr
    intro e
    have h4 := h3 j hj.1
    obtain ⟨e2, e3⟩ := x_in h e
    unfold gkB at h4
    rw [e2, e3, decide_eq_false (by omega)] at h4
    cases h4
  · intro h3 j hj
    unfold gkB
    cases c1 : tb s j
    · rfl
    · cases c2 : tb d j
      · rw [decide_eq_true_iff.mpr ?_]; rfl
        apply Classical.byContradiction
        intro c3
        have h4 : tb (hiN Ra p s i &&& (s ^^^ d)) j = true := by
          unfold tb
          rw [Nat.testBit_and]
          have h5 : (hiN Ra p s i).testBit j = true := by
            have h6 : tb (hiN Ra p s i) j = true := by
              unfold hiN
              rw [hgN_tb, decide_eq_true hj, c1, decide_eq_true (by omega)]; rfl
            exact h6
          have h7 : (s ^^^ d).testBit j = true := x_of c1 c2
          rw [h5, h7]; rfl
        rw [h3] at h4
        unfold tb at h4
        rw [Nat.zero_testBit] at h4
        cases h4
      · rfl
theorem m_breathsFor (g : Gx) (n : Nat) (w : Wd) {A : Nat → Nat → Nat} {len pl km : Nat} (hM : MO w A len pl km) {b lo r i : Nat} (hb : A 10 0 = b) (hb1 : 1 ≤ b ∧ b ≤ 12) (hi : i < 8) (hlo : A 18 i = lo) (hl : lo ≤ 20) (hr : r < 13) : CT g yX7_breathsFor cX7_breathsFor 3 (some .int) rm_X7_breathsFor n n w [.ref 59, .int (nI i), .int (nI r)] (Rv (.int (nI (bfN b lo r))) w) := by
  refine CT.start [some (.ref 59), some (.int (nI i)), some (.int (nI r))] (by decide +kernel) rfl (Nat.le_of_ble_eq_true rfl) (fun x C hnm => ?_)
  refine ww_aload0 C dX7_breathsFor_0 ?_
  refine ww_getf C fl_X7_64 hM.1 rfl dX7_breathsFor_1 ?_
  refine ww_iload1 C dX7_breathsFor_4 ?_
  refine ww_ialdN C hM.a18 (hi) dX7_breathsFor_5 (kk := ?_)
  rw [hlo]
  refine ww_iload2 C dX7_breathsFor_6 ?_
  refine ww_icmpgtN C (by omega) (tgt := 14) dX7_breathsFor_7 (by decide) (fun c7 => ?_) (fun c7 => ?_)
  · skip
    refine ww_aload0 C dX7_breathsFor_14 ?_
    refine ww_getf C fl_X7_64 hM.1 rfl dX7_breathsFor_15 ?_
    refine ww_iload1 C dX7_breathsFor_18 ?_
    refine ww_ialdN C hM.a18 (hi) dX7_breathsFor_19 (kk := ?_)
    rw [hlo]
    refine ww_aload0 C dX7_breathsFor_20 ?_
    refine ww_getf C fl_X7_40 hM.1 rfl dX7_breathsFor_21 ?_
    refine ww_iconst C (v := nI 0) dX7_breathsFor_24 (by decide) ?_
    refine ww_ialdN C hM.a10 (by decide) dX7_breathsFor_25 (kk := ?_)
    rw [hb]
    refine ww_iaddN C dX7_breathsFor_26 ?_
    refine ww_iconst C (v := nI 1) dX7_breathsFor_27 (by decide) ?_
    refine ww_isubN C (by omega) dX7_breathsFor_28 ?_
    refine ww_aload0 C dX7_breathsFor_29 ?_
    refine ww_getf C fl_X7_40 hM.1 rfl dX7_breathsFor_30 ?_
    refine ww_iconst C (v := nI 0) dX7_breathsFor_33 (by decide) ?_
    refine ww_ialdN C hM.a10 (by decide) dX7_breathsFor_34 (kk := ?_)
    rw [hb]
    refine ww_idivN C (by omega) dX7_breathsFor_35 ?_
    exact ww_ri C dX7_breathsFor_36 rfl ⟨Nat.le_of_ble_eq_true rfl, Nat.le_of_ble_eq_true rfl⟩ (by unfold bfN; rw [if_neg (by omega)]) rfl
  · skip
    refine ww_iconst C (v := nI 0) dX7_breathsFor_10 (by decide) ?_
    refine ww_goto C (tgt := 36) dX7_breathsFor_11 (by decide) ?_
    exact ww_ri C dX7_breathsFor_36 rfl ⟨Nat.le_of_ble_eq_true rfl, Nat.le_of_ble_eq_true rfl⟩ (by unfold bfN; rw [if_pos c7]) rfl
theorem m_roomBehind (g : Gx) (n : Nat) (w : Wd) {A : Nat → Nat → Nat} {len pl km : Nat} (hM : MO w A len pl km) {b lo r i : Nat} (hb : A 10 0 = b) (hb1 : 1 ≤ b ∧ b ≤ 12) (hi : i < 8) (hlo : A 18 i = lo) (hl : lo ≤ 20) (hr : r < 13) : CT g yX7_roomBehind cX7_roomBehind 3 (some .int) rm_X7_roomBehind n n w [.ref 59, .int (nI i), .int (nI r)] (Rv (.int (nI (rbN b lo r))) w) := by
  refine CT.start [some (.ref 59), some (.int (nI i)), some (.int (nI r))] (by decide +kernel) rfl (Nat.le_of_ble_eq_true rfl) (fun x C hnm => ?_)
  refine ww_aload0 C dX7_roomBehind_0 ?_
  refine ww_getf C fl_X7_64 hM.1 rfl dX7_roomBehind_1 ?_
  refine ww_iload1 C dX7_roomBehind_4 ?_
  refine ww_ialdN C hM.a18 (hi) dX7_roomBehind_5 (kk := ?_)
  rw [hlo]
  refine ww_iload2 C dX7_roomBehind_6 ?_
  refine ww_icmpgtN C (by omega) (tgt := 21) dX7_roomBehind_7 (by decide) (fun c7 => ?_) (fun c7 => ?_)
  · skip
    refine ww_aload0 C dX7_roomBehind_21 ?_
    refine ww_getf C fl_X7_64 hM.1 rfl dX7_roomBehind_22 ?_
    refine ww_iload1 C dX7_roomBehind_25 ?_
    refine ww_ialdN C hM.a18 (hi) dX7_roomBehind_26 (kk := ?_)
    rw [hlo]
    refine ww_aload0 C dX7_roomBehind_27 ?_
    refine ww_getf C fl_X7_40 hM.1 rfl dX7_roomBehind_28 ?_
    refine ww_iconst C (v := nI 0) dX7_roomBehind_31 (by decide) ?_
    refine ww_ialdN C hM.a10 (by decide) dX7_roomBehind_32 (kk := ?_)
    rw [hb]
    refine ww_icmpgtN C (by omega) (tgt := 52) dX7_roomBehind_33 (by decide) (fun c33 => ?_) (fun c33 => ?_)
    · skip
      refine ww_iconst C (v := nI 0) dX7_roomBehind_52 (by decide) ?_
      exact ww_ri C dX7_roomBehind_53 rfl ⟨Nat.le_of_ble_eq_true rfl, Nat.le_of_ble_eq_true rfl⟩ (by unfold rbN; rw [if_neg (by omega), if_neg (by omega)]) rfl
    · skip
      refine ww_aload0 C dX7_roomBehind_36 ?_
      refine ww_getf C fl_X7_40 hM.1 rfl dX7_roomBehind_37 ?_
      refine ww_iconst C (v := nI 0) dX7_roomBehind_40 (by decide) ?_
      refine ww_ialdN C hM.a10 (by decide) dX7_roomBehind_41 (kk := ?_)
      rw [hb]
      refine ww_aload0 C dX7_roomBehind_42 ?_
      refine ww_getf C fl_X7_64 hM.1 rfl dX7_roomBehind_43 ?_
      refine ww_iload1 C dX7_roomBehind_46 ?_
      refine ww_ialdN C hM.a18 (hi) dX7_roomBehind_47 (kk := ?_)
      rw [hlo]
      refine ww_isubN C (by omega) dX7_roomBehind_48 ?_
      refine ww_goto C (tgt := 53) dX7_roomBehind_49 (by decide) ?_
      exact ww_ri C dX7_roomBehind_53 rfl ⟨Nat.le_of_ble_eq_true rfl, Nat.le_of_ble_eq_true rfl⟩ (by unfold rbN; rw [if_neg (by omega), if_pos c33]) rfl
  · skip
    refine ww_iload2 C dX7_roomBehind_10 ?_
    refine ww_aload0 C dX7_roomBehind_11 ?_
    refine ww_getf C fl_X7_64 hM.1 rfl dX7_roomBehind_12 ?_
    refine ww_iload1 C dX7_roomBehind_15 ?_
    refine ww_ialdN C hM.a18 (hi) dX7_roomBehind_16 (kk := ?_)
    rw [hlo]
    refine ww_isubN C (by omega) dX7_roomBehind_17 ?_
    refine ww_goto C (tgt := 53) dX7_roomBehind_18 (by decide) ?_
    exact ww_ri C dX7_roomBehind_53 rfl ⟨Nat.le_of_ble_eq_true rfl, Nat.le_of_ble_eq_true rfl⟩ (by unfold rbN; rw [if_pos c7]) rfl
theorem mg_0 {c : Nat → Bool} {a : Bool} {j : Nat} (h : (a && alN c j) = false) : 0 = (if (a && alN c (j + 1)) = true then 1 else 0) := by
  show 0 = (if (a && (alN c j && c j)) = true then 1 else 0)
  revert h
  cases a <;> cases alN c j <;> cases c j <;> simp
theorem mg_1 {c : Nat → Bool} {a : Bool} {j : Nat} (h : (a && alN c j) = true) (h2 : c j = true) : 1 = (if (a && alN c (j + 1)) = true then 1 else 0) := by
  show 1 = (if (a && (alN c j && c j)) = true then 1 else 0)
  revert h h2
  cases a <;> cases alN c j <;> cases c j <;> simp
theorem mg_2 {c : Nat → Bool} {a : Bool} {j : Nat} (h2 : c j = false) : 0 = (if (a && alN c (j + 1)) = true then 1 else 0) := by
  show 0 = (if (a && (alN c j && c j)) = true then 1 else 0)
  rw [h2, Bool.and_false, Bool.and_false]; rfl
theorem m_mayGreet (g : Gx) (n : Nat) (w : Wd) {A : Nat → Nat → Nat} {len pl km : Nat} (hM : MO w A len pl km) {p s d i : Nat} {Ra : Nat → Nat} (hp : A 1 0 = p) (hp8 : p ≤ 8) (hs : s < 2 ^ p) (hsub : d &&& s = d) (hi : i < p) (hRa : ∀ i, i < p → A 6 i = Ra i ∧ Ra i ≤ 9) : CT g yX7_mayGreet cX7_mayGreet 6 (some .boolean) rm_X7_mayGreet n n w [.ref 59, .int (nI s), .int (nI d), .int (nI i)] (Rv (.int (bz (mbN (hiN Ra p s) (s ^^^ d) i))) w) := by
  have h256 := p256 hp8
  have hds := sub_le hsub
  refine CT.start [some (.ref 59), some (.int (nI s)), some (.int (nI d)), some (.int (nI i)), none, none] (by decide +kernel) rfl (Nat.le_of_ble_eq_true rfl) (fun x C hnm => ?_)
  have jn21 : ∀ (e : Nat), e = (if (tb s i && !tb d i) = true then 1 else 0) → WW g x 6 0 0 n w 21 [some (.ref 59), some (.int (nI s)), some (.int (nI d)), some (.int (nI i)), none, none] [.int (nI e)] := by
    intro e he
    refine ww_istore4 C dX7_mayGreet_21 (by decide) rfl ?_
    refine ww_iconst C (v := nI 0) dX7_mayGreet_23 (by decide) ?_
    refine ww_istore5 C dX7_mayGreet_24 (by decide) rfl ?_
    have lp26 : ∀ (m : Nat) (j e : Nat), j ≤ p → p < j + m → e = (if ((tb s i && !tb d i) && alN (gkB Ra s d i) j) = true then 1 else 0) → WW g x 6 0 0 n w 26 [some (.ref 59), some (.int (nI s)), some (.int (nI d)), some (.int (nI i)), some (.int (nI e)), some (.int (nI j))] [] := by
      intro m
      induction m with
      | zero =>
        intro j e hj0 hm he
        exact absurd hm (by omega)
      | succ m ih26 =>
        intro j e hj0 hm he
        refine ww_iload5 C dX7_mayGreet_26 ?_
        refine ww_aload0 C dX7_mayGreet_28 ?_
        refine ww_getf C fl_X7_13 hM.1 rfl dX7_mayGreet_29 ?_
        refine ww_iconst C (v := nI 0) dX7_mayGreet_32 (by decide) ?_
        refine ww_ialdN C hM.a1 (by decide) dX7_mayGreet_33 (kk := ?_)
        rw [hp]
        refine ww_icmpgeN C (by omega) (tgt := 89) dX7_mayGreet_34 (by decide) (fun c34 => ?_) (fun c34 => ?_)
        · skip
          refine ww_iload4 C dX7_mayGreet_89 ?_
          exact ww_rz C dX7_mayGreet_91 rfl ⟨Nat.le_of_ble_eq_true rfl, Nat.le_of_ble_eq_true rfl⟩ (by have ej : j = p := (by omega); rw [← mg_mb hs hsub, he, ej]; cases ((tb s i && !tb d i) && alN (gkB Ra s d i) p) <;> rfl) rfl
        · skip
          have jn81 : ∀ (e2 : Nat), e2 = (if ((tb s i && !tb d i) && alN (gkB Ra s d i) (j + 1)) = true then 1 else 0) → WW g x 6 0 0 n w 81 [some (.ref 59), some (.int (nI s)), some (.int (nI d)), some (.int (nI i)), some (.int (nI e)), some (.int (nI j))] [.int (nI e2)] := by
            intro e2 he2
            refine ww_istore4 C dX7_mayGreet_81 (by decide) rfl ?_
            refine ww_iincN5 C dX7_mayGreet_83 (by decide) rfl ?_
            refine ww_goto C (tgt := 26) dX7_mayGreet_86 (by decide) ?_
            exact ih26 (j + 1) e2 (by omega) (by omega) he2
          refine ww_iload4 C dX7_mayGreet_37 ?_
          refine ww_ifeqN C (by rw [he]; split <;> decide) (tgt := 80) dX7_mayGreet_39 (by decide) (fun c39 => ?_) (fun c39 => ?_)
          · skip
            refine ww_iconst C (v := nI 0) dX7_mayGreet_80 (by decide) ?_
            exact jn81 0 (mg_0 (by rw [he] at c39; split at c39; (cases c39); (rename_i q; exact Bool.eq_false_iff.mpr q)))
          · skip
            refine ww_iload1 C dX7_mayGreet_42 ?_
            refine ww_iload5 C dX7_mayGreet_43 ?_
            refine ww_cS2v C (c_mhas g n w (s := s) (i := j) (by omega) (by omega)) kS_X7_153 ⟨Nat.le_of_ble_eq_true rfl, Nat.le_of_ble_eq_true rfl⟩ ⟨rfl, rfl⟩ ⟨Nat.le_of_ble_eq_true rfl, Nat.le_of_ble_eq_true rfl⟩ (Nat.le_of_ble_eq_true rfl) dX7_mayGreet_45 ?_
            refine ww_ifeqB C (tgt := 76) dX7_mayGreet_48 (by decide) (fun c48 => ?_) (fun c48 => ?_)
            · skip
              refine ww_iconst C (v := nI 1) dX7_mayGreet_76 (by decide) ?_
              refine ww_goto C (tgt := 81) dX7_mayGreet_77 (by decide) ?_
              exact jn81 1 (mg_1 (by rw [he] at c39; split at c39; (assumption); (exact absurd rfl c39)) (by unfold gkB; rw [c48]; rfl))
            · skip
              refine ww_iload2 C dX7_mayGreet_51 ?_
              refine ww_iload5 C dX7_mayGreet_52 ?_
              refine ww_cS2v C (c_mhas g n w (s := d) (i := j) (by omega) (by omega)) kS_X7_153 ⟨Nat.le_of_ble_eq_true rfl, Nat.le_of_ble_eq_true rfl⟩ ⟨rfl, rfl⟩ ⟨Nat.le_of_ble_eq_true rfl, Nat.le_of_ble_eq_true rfl⟩ (Nat.le_of_ble_eq_true rfl) dX7_mayGreet_54 ?_
              refine ww_ifneB C (tgt := 76) dX7_mayGreet_57 (by decide) (fun c57 => ?_) (fun c57 => ?_)
              · skip
                refine ww_iconst C (v := nI 1) dX7_mayGreet_76 (by decide) ?_
                refine ww_goto C (tgt := 81) dX7_mayGreet_77 (by decide) ?_
                exact jn81 1 (mg_1 (by rw [he] at c39; split at c39; (assumption); (exact absurd rfl c39)) (by unfold gkB; rw [c57, Bool.true_or, Bool.or_true]))
              · skip
                refine ww_aload0 C dX7_mayGreet_60 ?_
                refine ww_getf C fl_X7_28 hM.1 rfl dX7_mayGreet_61 ?_
                refine ww_iload5 C dX7_mayGreet_64 ?_
                refine ww_ialdN C hM.a6 (by omega) dX7_mayGreet_66 (kk := ?_)
                rw [(hRa j c34).1]
                refine ww_aload0 C dX7_mayGreet_67 ?_
                refine ww_getf C fl_X7_28 hM.1 rfl dX7_mayGreet_68 ?_
                refine ww_iload3 C dX7_mayGreet_71 ?_
                refine ww_ialdN C hM.a6 (by omega) dX7_mayGreet_72 (kk := ?_)
                rw [(hRa i hi).1]
                refine ww_icmpgtN C (by have := (hRa j c34).2; have := (hRa i hi).2; omega) (tgt := 80) dX7_mayGreet_73 (by decide) (fun c73 => ?_) (fun c73 => ?_)
                · skip
                  refine ww_iconst C (v := nI 0) dX7_mayGreet_80 (by decide) ?_
                  exact jn81 0 (mg_2 (by unfold gkB; rw [c48, c57, decide_eq_false (by omega)]; rfl))
                · skip
                  refine ww_iconst C (v := nI 1) dX7_mayGreet_76 (by decide) ?_
                  refine ww_goto C (tgt := 81) dX7_mayGreet_77 (by decide) ?_
                  exact jn81 1 (mg_1 (by rw [he] at c39; split at c39; (assumption); (exact absurd rfl c39)) (by unfold gkB; rw [decide_eq_true c73, Bool.or_true, Bool.or_true]))
    exact lp26 (p + 1) 0 e (by omega) (by omega) (by rw [he]; show _ = (if (_ && true) = true then 1 else 0); rw [Bool.and_true])
  refine ww_iload1 C dX7_mayGreet_0 ?_
  refine ww_iload3 C dX7_mayGreet_1 ?_
  refine ww_cS2v C (c_mhas g n w (s := s) (i := i) (by omega) (by omega)) kS_X7_153 ⟨Nat.le_of_ble_eq_true rfl, Nat.le_of_ble_eq_true rfl⟩ ⟨rfl, rfl⟩ ⟨Nat.le_of_ble_eq_true rfl, Nat.le_of_ble_eq_true rfl⟩ (Nat.le_of_ble_eq_true rfl) dX7_mayGreet_2 ?_
  refine ww_ifeqB C (tgt := 20) dX7_mayGreet_5 (by decide) (fun c5 => ?_) (fun c5 => ?_)
  · skip
    refine ww_iconst C (v := nI 0) dX7_mayGreet_20 (by decide) ?_
    exact jn21 0 (by rw [c5]; rfl)
  · skip
    refine ww_iload2 C dX7_mayGreet_8 ?_
    refine ww_iload3 C dX7_mayGreet_9 ?_
    refine ww_cS2v C (c_mhas g n w (s := d) (i := i) (by omega) (by omega)) kS_X7_153 ⟨Nat.le_of_ble_eq_true rfl, Nat.le_of_ble_eq_true rfl⟩ ⟨rfl, rfl⟩ ⟨Nat.le_of_ble_eq_true rfl, Nat.le_of_ble_eq_true rfl⟩ (Nat.le_of_ble_eq_true rfl) dX7_mayGreet_10 ?_
    refine ww_ifneB C (tgt := 20) dX7_mayGreet_13 (by decide) (fun c13 => ?_) (fun c13 => ?_)
    · skip
      refine ww_iconst C (v := nI 0) dX7_mayGreet_20 (by decide) ?_
      exact jn21 0 (by rw [c13, Bool.not_true, Bool.and_false]; rfl)
    · skip
      refine ww_iconst C (v := nI 1) dX7_mayGreet_16 (by decide) ?_
      refine ww_goto C (tgt := 21) dX7_mayGreet_17 (by decide) ?_
      exact jn21 1 (by rw [c5, c13]; rfl)
def Ni (s d r b best : Nat) (F : Nat → Nat) (c : Nat → Bool) (i : Nat) : Prop := best ≤ 999 ∧ (d = s → best = 0) ∧ (¬ d = s → r < b → best = (match mnN F c i with | none => 999 | some a => fR r a))
theorem Ni.step {s d r b best v : Nat} {F : Nat → Nat} {c : Nat → Bool} {i : Nat} (h : Ni s d r b best F c i) (hs : d = s → c i = false) (h1 : c i = false → v = 999) (h2 : c i = true → r < b → v = fR r (F i) ∧ fR r (F i) ≤ 998) : Ni s d r b (if v < best then v else best) F c (i + 1) := by
  obtain ⟨a1, a2, a3⟩ := h
  refine ⟨by split <;> omega, fun e => ?_, fun e hr => ?_⟩
  · rw [a2 e, if_neg (by omega)]
  · have a3 := a3 e hr
    cases cb : c i with
    | false =>
      rw [mnN_f cb, ← a3, h1 cb, if_neg (by omega)]
    | true =>
      obtain ⟨b1, b2⟩ := h2 cb hr
      cases h3 : mnN F c i with
      | none =>
        rw [h3] at a3
        rw [mnN_n cb h3, a3]
        show (if v < 999 then v else 999) = fR r (F i)
        rw [if_pos (by omega), b1]
      | some a0 =>
        rw [h3] at a3
        rw [mnN_s cb h3, a3]
        show (if v < fR r a0 then v else fR r a0) = fR r (min a0 (F i))
        rw [fR_min, ← b1]
        split <;> omega
/-- the rows of needs behind d -/
def Nd (D : Nat → Nat → Nat) (p b s : Nat) (Lo Ra : Nat → Nat) (e : Nat) : Prop := ∀ r, r < 13 → D 22 (13 * e + r) ≤ 999 ∧ (e &&& s = e → r < b → D 22 (13 * e + r) = fR r (pcN p b Lo (hiN Ra p s) (s ^^^ e)))
theorem rb_lt {b lo r : Nat} (hb : b ≤ 12) (hr : r < 13) : rbN b lo r < 13 := by unfold rbN; split; omega; split <;> omega
theorem rb_b {b lo r : Nat} (hb : 1 ≤ b) (h1 : 1 ≤ lo) (hr : r < b) : rbN b lo r < b := by unfold rbN; split; omega; split <;> omega
theorem bf_le {b lo r : Nat} (hb : 1 ≤ b) (h : lo ≤ 20) : bfN b lo r ≤ 20 := by
  have := dv_le (a := lo) hb
  unfold bfN
  split <;> omega
theorem need_v {D : Nat → Nat → Nat} {p b s d r i : Nat} {Lo Ra : Nat → Nat} (hp : p ≤ 8) (hb1 : 1 ≤ b) (hb : b ≤ 12) (hL : ∀ i, i < p → 1 ≤ Lo i ∧ Lo i ≤ 20) (hs : s < 2 ^ p) (hsub : d &&& s = d) (hN : Nd D p b s Lo Ra (d ||| 2 ^ i)) (hi : i < p) (ht : tb (s ^^^ d) i = true) (hr : r < b) : bfN b (Lo i) r + D 22 (13 * (d ||| 2 ^ i) + rbN b (Lo i) r) = fR r (pkd b (Lo i) (pcN p b Lo (hiN Ra p s) ((s ^^^ d) ^^^ 2 ^ i))) ∧ fR r (pkd b (Lo i) (pcN p b Lo (hiN Ra p s) ((s ^^^ d) ^^^ 2 ^ i))) ≤ 998 := by
  obtain ⟨t1, t2⟩ := x_in hsub ht
  have hL1 : ∀ i, i < p → 1 ≤ Lo i := fun i hi => (hL i hi).1
  have e1 := (hN _ (rb_lt hb (r := r) (lo := Lo i) (by omega))).2 (or_sub hsub t1) (rb_b hb1 (hL i hi).1 hr)
  rw [x_or t2] at e1
  have hq : s ^^^ d < 2 ^ p := x_lt hs (sub_le hsub)
  have e2 := bs_best (b := b) (Lo := Lo) (Ra := Ra) (s := s) hp hb1 hb hL1 hq hr hi ht
  have h256 := p256 hp
  have hx := xor_bit (s := s ^^^ d) (i := i) (by omega) (by omega) ht
  have e3 := fR_160 (b := b) (Lo := Lo) (Ra := Ra) (s := s) hp hb1 hb (fun i hi => (hL i hi).2) (rbN b (Lo i) r) (q := (s ^^^ d) ^^^ 2 ^ i) (by omega)
  have e4 := bf_le (r := r) hb1 (hL i hi).2
  rw [e1]
  exact ⟨e2, by omega⟩
theorem need_fin {p b s d r best : Nat} {Lo Ra : Nat → Nat} (hp : p ≤ 8) (hb : b ≤ 12) (hs : s < 2 ^ p) (hN : Ni s d r b best (fun i => pkd b (Lo i) (pcN p b Lo (hiN Ra p s) ((s ^^^ d) ^^^ 2 ^ i))) (mbN (hiN Ra p s) (s ^^^ d)) p) (hsub : d &&& s = d) (hr : r < b) : best = fR r (pcN p b Lo (hiN Ra p s) (s ^^^ d)) := by
  obtain ⟨a1, a2, a3⟩ := hN
  by_cases c : d = s
  · rw [a2 c, c, Nat.xor_self, pcN_eq hp]
    show 0 = fR r b
    unfold fR
    omega
  · have a3 := a3 c hr
    rw [pc_mn hp (x_lt hs (sub_le hsub)) (fun e => c (x_0 e))] at a3
    exact a3
theorem m_layNeeds (g : Gx) (n : Nat) (w : Wd) {A : Nat → Nat → Nat} {len pl km : Nat} (hM : MO w A len pl km) {h : Hs} {a : Ms} (hSy : Sy A h a) (hB : Bd h a) {s : Nat} (hsp : s < 2 ^ h.2.2.2.1) : CT g yX7_layNeeds cX7_layNeeds 7 none rm_X7_layNeeds n n w [.ref 59, .int (nI s)] (R0q (fun w1 => ∃ D, MO w1 D len pl km ∧ fr w w1 59 83 ∧ (∀ b, ¬ b = 22 → D b = A b) ∧ (∀ e, e ≤ s → Nd D h.2.2.2.1 h.2.2.2.2.2.2.2.2.2.1 s (longN a.1 a.2.1) h.2.2.2.2.2.1 e) ∧ Sy D h a)) := by
  have hf : fr w w 59 83 := fr.rf
  obtain ⟨⟨hp1, hp8⟩, ⟨hb1, hb12, hv20, hmi9⟩, hK3, hM10, hS5, hM1, hX99, hR9, hwo5, hsh1, hbe9, hhd9, hhn12⟩ := id hB
  have h256 := p256 hp8
  have hL : ∀ i, i < h.2.2.2.1 → 1 ≤ longN a.1 a.2.1 i ∧ longN a.1 a.2.1 i ≤ 20 := fun i hi => ⟨longN_1 (hM1 i hi), longN_le (hM10 i)⟩
  refine CT.start [some (.ref 59), some (.int (nI s)), none, none, none, none, none] (by decide +kernel) rfl (Nat.le_of_ble_eq_true rfl) (fun x C hnm => ?_)
  refine ww_iload1 C dX7_layNeeds_0 ?_
  refine ww_istore2 C dX7_layNeeds_1 (by decide) rfl ?_
  have lp2 : ∀ (m : Nat) (r0 : Nat) (ez : Int32) (D : Nat → Nat → Nat) (u : Wd) (z3 z4 z5 z6 : Option Value), r0 ≤ s + 1 → r0 < m → ez = nI r0 - 1 → (∀ b, ¬ b = 22 → D b = A b) → (∀ e, r0 ≤ e → e ≤ s → Nd D h.2.2.2.1 h.2.2.2.2.2.2.2.2.2.1 s (longN a.1 a.2.1) h.2.2.2.2.2.1 e) → Sy D h a → MO u D len pl km → fr w u 59 83 → WW g x 7 0 0 n u 2 [some (.ref 59), some (.int (nI s)), some (.int ez), z3, z4, z5, z6] [] := by
    intro m
    induction m with
    | zero =>
      intro r0 ez D u z3 z4 z5 z6 hr0 hm hez hBo hpo hSy hM hf
      exact absurd hm (by omega)
    | succ m ih2 =>
      intro r0 ez D u z3 z4 z5 z6 hr0 hm hez hBo hpo hSy hM hf
      subst hez
      rcases r0 with _ | d
      · skip
        refine ww_iload2 C dX7_layNeeds_2 ?_
        refine ww_iflt C (tgt := 146) dX7_layNeeds_3 (by decide) (fun c3 => ?_) (fun c3 => ?_)
        · skip
          exact ww_rvq C dX7_layNeeds_146 rfl ⟨Nat.le_of_ble_eq_true rfl, Nat.le_of_ble_eq_true rfl⟩ ⟨D, hM, hf, hBo, fun e he => hpo e (by omega) he, hSy⟩
        · skip
          exact absurd (by decide) c3
      · skip
        rw [nI_pred]
        have hNd : (∀ e, d < e → e ≤ s → Nd D h.2.2.2.1 h.2.2.2.2.2.2.2.2.2.1 s (longN a.1 a.2.1) h.2.2.2.2.2.1 e) := fun e h1 h2 => hpo e (by omega) h2
        refine ww_iload2 C dX7_layNeeds_2 ?_
        refine ww_iflt C (tgt := 146) dX7_layNeeds_3 (by decide) (fun c3 => ?_) (fun c3 => ?_)
        · skip
          exact absurd c3 (nI_pos (by omega))
        · skip
          refine ww_iconst C (v := nI 0) dX7_layNeeds_6 (by decide) ?_
          refine ww_istore3 C dX7_layNeeds_7 (by decide) rfl ?_
          have lp8 : ∀ (m : Nat) (r : Nat) (D : Nat → Nat → Nat) (u : Wd) (z4 z5 z6 : Option Value), r ≤ 13 → 13 < r + m → (∀ b, ¬ b = 22 → D b = A b) → (∀ e, d < e → e ≤ s → Nd D h.2.2.2.1 h.2.2.2.2.2.2.2.2.2.1 s (longN a.1 a.2.1) h.2.2.2.2.2.1 e) → (∀ r2, r2 < r → D 22 (13 * d + r2) ≤ 999 ∧ (d &&& s = d → r2 < h.2.2.2.2.2.2.2.2.2.1 → D 22 (13 * d + r2) = fR r2 ((pcN h.2.2.2.1 h.2.2.2.2.2.2.2.2.2.1 (longN a.1 a.2.1) (hiN h.2.2.2.2.2.1 h.2.2.2.1 s)) (s ^^^ d)))) → Sy D h a → MO u D len pl km → fr w u 59 83 → WW g x 7 0 0 n u 8 [some (.ref 59), some (.int (nI s)), some (.int (nI d)), some (.int (nI r)), z4, z5, z6] [] := by
            intro m
            induction m with
            | zero =>
              intro r D u z4 z5 z6 hr0 hm hBo hNd hNr hSy hM hf
              exact absurd hm (by omega)
            | succ m ih8 =>
              intro r D u z4 z5 z6 hr0 hm hBo hNd hNr hSy hM hf
              refine ww_iload3 C dX7_layNeeds_8 ?_
              refine ww_bipush C (v := nI 13) dX7_layNeeds_9 (by decide) ?_
              refine ww_icmpgeN C (by omega) (tgt := 140) dX7_layNeeds_11 (by decide) (fun c11 => ?_) (fun c11 => ?_)
              · skip
                have er : r = 13 := by omega
                subst er
                refine ww_iinc2 C (u := nI d - 1) dX7_layNeeds_140 (dec1 _) (by decide) rfl ?_
                refine ww_goto C (tgt := 2) dX7_layNeeds_143 (by decide) ?_
                exact ih2 d _ D _ _ _ _ _ (by omega) (by omega) rfl hBo (fun e h1 h2 => by by_cases c : e = d; (rw [c]; exact hNr); (exact hNd e (by omega) h2)) hSy hM hf
              · skip
                have jn26 : ∀ (e : Nat), e = (if d = s then 0 else 999) → WW g x 7 0 0 n u 26 [some (.ref 59), some (.int (nI s)), some (.int (nI d)), some (.int (nI r)), z4, z5, z6] [.int (nI e)] := by
                  intro e he
                  refine ww_istore4 C dX7_layNeeds_26 (by decide) rfl ?_
                  refine ww_iconst C (v := nI 0) dX7_layNeeds_28 (by decide) ?_
                  refine ww_istore5 C dX7_layNeeds_29 (by decide) rfl ?_
                  have lp31 : ∀ (m : Nat) (i best : Nat) (z6 : Option Value), i ≤ h.2.2.2.1 → h.2.2.2.1 < i + m → Ni s d r h.2.2.2.2.2.2.2.2.2.1 best (fun i => pkd h.2.2.2.2.2.2.2.2.2.1 ((longN a.1 a.2.1) i) ((pcN h.2.2.2.1 h.2.2.2.2.2.2.2.2.2.1 (longN a.1 a.2.1) (hiN h.2.2.2.2.2.1 h.2.2.2.1 s)) ((s ^^^ d) ^^^ 2 ^ i))) (mbN (hiN h.2.2.2.2.2.1 h.2.2.2.1 s) (s ^^^ d)) i → WW g x 7 0 0 n u 31 [some (.ref 59), some (.int (nI s)), some (.int (nI d)), some (.int (nI r)), some (.int (nI best)), some (.int (nI i)), z6] [] := by
                    intro m
                    induction m with
                    | zero =>
                      intro i best z6 hi0 hm hNi
                      exact absurd hm (by omega)
                    | succ m ih31 =>
                      intro i best z6 hi0 hm hNi
                      refine ww_iload5 C dX7_layNeeds_31 ?_
                      have jn121 : ∀ (_ : True), (best ≤ 999 ∧ (d &&& s = d → r < h.2.2.2.2.2.2.2.2.2.1 → best = fR r ((pcN h.2.2.2.1 h.2.2.2.2.2.2.2.2.2.1 (longN a.1 a.2.1) (hiN h.2.2.2.2.2.1 h.2.2.2.1 s)) (s ^^^ d)))) → WW g x 7 0 0 n u 121 [some (.ref 59), some (.int (nI s)), some (.int (nI d)), some (.int (nI r)), some (.int (nI best)), some (.int (nI i)), z6] [] := by
                        intro _ hfin
                        refine ww_aload0 C dX7_layNeeds_121 ?_
                        refine ww_getf C fl_X7_76 hM.1 rfl dX7_layNeeds_122 ?_
                        refine ww_bipush C (v := nI 13) dX7_layNeeds_125 (by decide) ?_
                        refine ww_iload2 C dX7_layNeeds_127 ?_
                        refine ww_imulN C dX7_layNeeds_128 ?_
                        refine ww_iload3 C dX7_layNeeds_129 ?_
                        refine ww_iaddN C dX7_layNeeds_130 ?_
                        refine ww_iload4 C dX7_layNeeds_131 ?_
                        refine ww_iastN C hM.a22 (by omega) dX7_layNeeds_133 (kk := fun w1 hw1 => ?_)
                        have hf : fr w w1 59 83 := hf.tr (fr.up hw1 (by omega) (by omega))
                        obtain ⟨A1, hM, e1, o1⟩ := hM.st 22 (by decide) hw1
                        refine ww_iincN3 C dX7_layNeeds_134 (by decide) rfl ?_
                        refine ww_goto C (tgt := 8) dX7_layNeeds_137 (by decide) ?_
                        exact ih8 (r + 1) A1 _ _ _ _ (by omega) (by omega) (fun b hb => (o1 b hb).trans (hBo b hb)) (fun e h1 h2 r2 h3 => by have q := hNd e h1 h2 r2 h3; rw [e1, va_upd_ne _ _ (by omega)]; exact q) (fun r2 h2 => by by_cases c : r2 = r; (rw [c, e1, va_upd_self]; exact hfin); (rw [e1, va_upd_ne _ _ (by omega)]; exact hNr r2 (by omega))) (hSy.eqv (fun b _ _ h1 => o1 b h1)) hM hf
                      refine ww_aload0 C dX7_layNeeds_33 ?_
                      refine ww_getf C fl_X7_13 hM.1 rfl dX7_layNeeds_34 ?_
                      refine ww_iconst C (v := nI 0) dX7_layNeeds_37 (by decide) ?_
                      refine ww_ialdN C hM.a1 (by decide) dX7_layNeeds_38 (kk := ?_)
                      rw [hSy.1]
                      refine ww_icmpgeN C (by omega) (tgt := 121) dX7_layNeeds_39 (by decide) (fun c39 => ?_) (fun c39 => ?_)
                      · skip
                        exact jn121 trivial ⟨hNi.1, fun e hrb => need_fin hp8 hb12 hsp (by have ei : i = h.2.2.2.1 := (by omega); rw [ei] at hNi; exact hNi) e hrb⟩
                      · skip
                        refine ww_iload2 C dX7_layNeeds_42 ?_
                        refine ww_iload1 C dX7_layNeeds_43 ?_
                        refine ww_iconst C (v := -1) dX7_layNeeds_44 (by decide) ?_
                        refine ww_ixor C dX7_layNeeds_45 ?_
                        refine ww_iand C dX7_layNeeds_46 ?_
                        refine ww_topi (andn (by omega)) ?_
                        refine ww_ifneN C (by have := dif_lt s (a := d) (by omega); omega) (tgt := 121) dX7_layNeeds_47 (by decide) (fun c47 => ?_) (fun c47 => ?_)
                        · skip
                          have hnsub := fun e => c47 ((and_dif (d := d) (s := s) (by omega)).mpr e)
                          exact jn121 trivial ⟨hNi.1, fun e => absurd e hnsub⟩
                        · skip
                          have hsub := (and_dif (by omega)).mp c47
                          have jn97 : ∀ (v : Nat), v ≤ 1019 → ((mbN (hiN h.2.2.2.2.2.1 h.2.2.2.1 s) (s ^^^ d)) i = false → v = 999) → ((mbN (hiN h.2.2.2.2.2.1 h.2.2.2.1 s) (s ^^^ d)) i = true → r < h.2.2.2.2.2.2.2.2.2.1 → v = fR r ((fun i => pkd h.2.2.2.2.2.2.2.2.2.1 ((longN a.1 a.2.1) i) ((pcN h.2.2.2.1 h.2.2.2.2.2.2.2.2.2.1 (longN a.1 a.2.1) (hiN h.2.2.2.2.2.1 h.2.2.2.1 s)) ((s ^^^ d) ^^^ 2 ^ i))) i) ∧ fR r ((fun i => pkd h.2.2.2.2.2.2.2.2.2.1 ((longN a.1 a.2.1) i) ((pcN h.2.2.2.1 h.2.2.2.2.2.2.2.2.2.1 (longN a.1 a.2.1) (hiN h.2.2.2.2.2.1 h.2.2.2.1 s)) ((s ^^^ d) ^^^ 2 ^ i))) i) ≤ 998) → WW g x 7 0 0 n u 97 [some (.ref 59), some (.int (nI s)), some (.int (nI d)), some (.int (nI r)), some (.int (nI best)), some (.int (nI i)), z6] [.int (nI v)] := by
                            intro v hv0 hv1 hv2
                            refine ww_istore6 C dX7_layNeeds_97 (by decide) rfl ?_
                            have jn113 : ∀ (e : Nat), e = (if v < best then v else best) → WW g x 7 0 0 n u 113 [some (.ref 59), some (.int (nI s)), some (.int (nI d)), some (.int (nI r)), some (.int (nI best)), some (.int (nI i)), some (.int (nI v))] [.int (nI e)] := by
                              intro e he
                              subst he
                              refine ww_istore4 C dX7_layNeeds_113 (by decide) rfl ?_
                              refine ww_iincN5 C dX7_layNeeds_115 (by decide) rfl ?_
                              refine ww_goto C (tgt := 31) dX7_layNeeds_118 (by decide) ?_
                              exact ih31 (i + 1) _ _ (by omega) (by omega) (hNi.step (fun q => by rw [q, Nat.xor_self]; unfold mbN; rw [tb_00]; rfl) hv1 hv2)
                            refine ww_iload6 C dX7_layNeeds_99 ?_
                            refine ww_iload4 C dX7_layNeeds_101 ?_
                            refine ww_icmpgeN C (by have := hNi.1; omega) (tgt := 111) dX7_layNeeds_103 (by decide) (fun c103 => ?_) (fun c103 => ?_)
                            · skip
                              refine ww_iload4 C dX7_layNeeds_111 ?_
                              exact jn113 _ (by rw [if_neg (by omega)])
                            · skip
                              refine ww_iload6 C dX7_layNeeds_106 ?_
                              refine ww_goto C (tgt := 113) dX7_layNeeds_108 (by decide) ?_
                              exact jn113 _ (by rw [if_pos c103])
                          refine ww_aload0 C dX7_layNeeds_50 ?_
                          refine ww_iload1 C dX7_layNeeds_51 ?_
                          refine ww_iload2 C dX7_layNeeds_52 ?_
                          refine ww_iload5 C dX7_layNeeds_53 ?_
                          refine ww_cV3v C hM.1 rfl (m_mayGreet g n u hM hSy.1 hp8 hsp hsub c39 (Ra := h.2.2.2.2.2.1) (fun i hi => ⟨(hSy.2.2.2.2.2 i hi).2, hR9 i⟩)) kV_X7_180 ⟨Nat.le_of_ble_eq_true rfl, Nat.le_of_ble_eq_true rfl⟩ ⟨rfl, rfl⟩ ⟨Nat.le_of_ble_eq_true rfl, Nat.le_of_ble_eq_true rfl⟩ (Nat.le_of_ble_eq_true rfl) dX7_layNeeds_55 ?_
                          refine ww_ifeqB C (tgt := 94) dX7_layNeeds_58 (by decide) (fun c58 => ?_) (fun c58 => ?_)
                          · skip
                            refine ww_sipush C (v := nI 999) dX7_layNeeds_94 (by decide) ?_
                            exact jn97 999 (by omega) (fun _ => rfl) (fun e => by rw [c58] at e; cases e)
                          · skip
                            have ht := mb_tb c58
                            obtain ⟨t1, t2⟩ := x_in hsub ht
                            have hor := or_gt (s := d) (i := i) (by omega) (by omega) t2
                            have hor2 := sub_le (or_sub hsub t1)
                            have hNe := hNd _ hor hor2
                            have hlb := hL i c39
                            refine ww_aload0 C dX7_layNeeds_61 ?_
                            refine ww_iload5 C dX7_layNeeds_62 ?_
                            refine ww_iload3 C dX7_layNeeds_64 ?_
                            refine ww_cV2v C hM.1 rfl (m_breathsFor g n u hM (b := h.2.2.2.2.2.2.2.2.2.1) (lo := (longN a.1 a.2.1) i) (r := r) (i := i) hSy.2.1 (And.intro hb1 hb12) (by omega) (hSy.2.2.2.1 i c39).1 (hSy.2.2.2.1 i c39).2 (by omega)) kV_X7_183 ⟨Nat.le_of_ble_eq_true rfl, Nat.le_of_ble_eq_true rfl⟩ ⟨rfl, rfl⟩ ⟨Nat.le_of_ble_eq_true rfl, Nat.le_of_ble_eq_true rfl⟩ (Nat.le_of_ble_eq_true rfl) dX7_layNeeds_65 ?_
                            refine ww_aload0 C dX7_layNeeds_68 ?_
                            refine ww_getf C fl_X7_76 hM.1 rfl dX7_layNeeds_69 ?_
                            refine ww_bipush C (v := nI 13) dX7_layNeeds_72 (by decide) ?_
                            refine ww_iload2 C dX7_layNeeds_74 ?_
                            refine ww_iconst C (v := nI 1) dX7_layNeeds_75 (by decide) ?_
                            refine ww_iload5 C dX7_layNeeds_76 ?_
                            refine ww_shl1N C (by omega) dX7_layNeeds_78 ?_
                            refine ww_iorN C dX7_layNeeds_79 ?_
                            refine ww_imulN C dX7_layNeeds_80 ?_
                            refine ww_aload0 C dX7_layNeeds_81 ?_
                            refine ww_iload5 C dX7_layNeeds_82 ?_
                            refine ww_iload3 C dX7_layNeeds_84 ?_
                            refine ww_cV2v C hM.1 rfl (m_roomBehind g n u hM (b := h.2.2.2.2.2.2.2.2.2.1) (lo := (longN a.1 a.2.1) i) (r := r) (i := i) hSy.2.1 (And.intro hb1 hb12) (by omega) (hSy.2.2.2.1 i c39).1 (hSy.2.2.2.1 i c39).2 (by omega)) kV_X7_187 ⟨Nat.le_of_ble_eq_true rfl, Nat.le_of_ble_eq_true rfl⟩ ⟨rfl, rfl⟩ ⟨Nat.le_of_ble_eq_true rfl, Nat.le_of_ble_eq_true rfl⟩ (Nat.le_of_ble_eq_true rfl) dX7_layNeeds_85 ?_
                            refine ww_iaddN C dX7_layNeeds_88 ?_
                            refine ww_ialdN C hM.a22 (by have := rb_lt (b := h.2.2.2.2.2.2.2.2.2.1) (lo := (longN a.1 a.2.1) i) (r := r) hb12 (by omega); omega) dX7_layNeeds_89 (kk := ?_)
                            refine ww_iaddN C dX7_layNeeds_90 ?_
                            refine ww_goto C (tgt := 97) dX7_layNeeds_91 (by decide) ?_
                            exact jn97 _ (by have h1 := bf_le (b := h.2.2.2.2.2.2.2.2.2.1) (r := r) hb1 hlb.2; have h2 := (hNe _ (rb_lt (lo := (longN a.1 a.2.1) i) hb12 (show r < 13 by omega))).1; omega) (fun e => by rw [c58] at e; cases e) (fun _ hrb => need_v hp8 hb1 hb12 hL hsp hsub hNe c39 ht hrb)
                  exact lp31 (h.2.2.2.1 + 1) 0 e _ (by omega) (by omega) ⟨by rw [he]; split <;> omega, fun q => by rw [he, if_pos q], fun q _ => by rw [he, if_neg q]; rfl⟩
                refine ww_iload2 C dX7_layNeeds_14 ?_
                refine ww_iload1 C dX7_layNeeds_15 ?_
                refine ww_icmpneN C (by omega) (tgt := 23) dX7_layNeeds_16 (by decide) (fun c16 => ?_) (fun c16 => ?_)
                · skip
                  refine ww_sipush C (v := nI 999) dX7_layNeeds_23 (by decide) ?_
                  exact jn26 999 (by rw [if_neg c16])
                · skip
                  refine ww_iconst C (v := nI 0) dX7_layNeeds_19 (by decide) ?_
                  refine ww_goto C (tgt := 26) dX7_layNeeds_20 (by decide) ?_
                  exact jn26 0 (by rw [if_pos c16])
          exact lp8 (14) 0 D _ _ _ _ (by omega) (by omega) hBo hNd (fun r2 h2 => absurd h2 (Nat.not_lt_zero _)) hSy hM hf
  exact lp2 (s + 2) (s + 1) _ A _ _ _ _ _ (by omega) (by omega) (by rw [nI_pred]) (fun _ _ => rfl) (fun e h1 h2 => absurd h1 (by omega)) hSy hM hf
