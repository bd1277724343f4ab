theorem oI_some {i : Nat} {r : Option Nat} (hi : i < 1000) (hr : ∀ k, r = some k → k < 1000) : nI i = oI r ↔ r = some i := by
  rcases r with _ | q
  · exact ⟨fun e => absurd e (oI_ne (by omega)), fun e => by cases e⟩
  · have := hr q rfl
    show nI i = nI q ↔ _
    rw [nI_eq (by omega) (by omega)]
    exact ⟨fun e => by rw [e], fun e => by cases e; rfl⟩
/-- a name said once, in the model -/
def onN (K M : Nat → Nat) (i : Nat) : Nat := if K i = 1 ∧ 1 < M i then M i - 1 else M i
theorem onN_pos {K M : Nat → Nat} {i : Nat} (h : 1 ≤ M i) : 0 < onN K M i ∧ onN K M i ≤ M i := by unfold onN; split <;> omega
theorem longN_on {K M : Nat → Nat} {i : Nat} (hK : K i ≤ 3) : longN K M i = if 1 < K i then 2 * onN K M i else onN K M i := by
  unfold longN onN
  rcases (show K i = 0 ∨ K i = 1 ∨ K i = 2 ∨ K i = 3 by omega) with e | e | e | e <;> rw [e] <;> simp <;> (try split) <;> (try split) <;> omega
theorem at_eq {K M : Nat → Nat} {i j : Nat} (hK : K i ≤ 3) (hM : 1 ≤ M i) (h : j < longN K M i) : j % onN K M i = (if j < M i then j else j - M i) ∧ j % onN K M i < M i := by
  have hp := onN_pos (K := K) hM
  rw [longN_on hK] at h
  by_cases c : 1 < K i
  · rw [if_pos c] at h
    have e : onN K M i = M i := by unfold onN; rw [if_neg (by omega)]
    rw [e] at h ⊢
    refine ⟨?_, Nat.mod_lt _ (by omega)⟩
    by_cases c2 : j < M i
    · rw [if_pos c2, Nat.mod_eq_of_lt c2]
    · rw [if_neg c2, Nat.mod_eq_sub_mod (by omega), Nat.mod_eq_of_lt (by omega)]
  · rw [if_neg c] at h
    rw [Nat.mod_eq_of_lt h, if_pos (by omega)]
    exact ⟨rfl, by omega⟩
/-- what laySaid lays: how long each name is, how long it takes, what is said -/
def Sd (B : Nat → Nat → Nat) (p : Nat) (K M S be : Nat → Nat) : Prop := ∀ i, i < p → B 18 i = longN K M i ∧ B 19 i = beatN K M S be i ∧ ∀ j, j < longN K M i → B 17 (20 * i + j) = saidN M S i j
/-- the beats of the first j syllables -/
def bpN (K M S be : Nat → Nat) (i j : Nat) : Nat := if K i = 3 then 2 * sumN (fun q => be (saidN M S i q)) j else sumN (fun q => be (saidN M S i q)) j
theorem bpN_s (K M S be : Nat → Nat) (i j : Nat) : bpN K M S be i (j + 1) = bpN K M S be i j + be (saidN M S i j) * (if K i = 3 then 2 else 1) := by
  unfold bpN
  show (if K i = 3 then 2 * (sumN _ j + be (saidN M S i j)) else sumN _ j + be (saidN M S i j)) = _
  split <;> omega
theorem up_at {α : Type} {f h : Nat → α} {k j : Nat} {v : α} (e : h = va_up f k v) (hj : j = k) : h j = v := by rw [e, hj]; exact va_upd_self _ _ _
theorem up_no {α : Type} {f h : Nat → α} {k j : Nat} {v : α} (e : h = va_up f k v) (hj : ¬ j = k) : h j = f j := by rw [e]; exact va_upd_ne _ _ hj
theorem m_laySaid (g : Gx) (n : Nat) (w : Wd) {A : Nat → Nat → Nat} {len pl km : Nat} (hM : MO w A len pl km) {p : Nat} (hp : A 1 0 = p) (hp8 : p ≤ 8) {bk : Nat} (hbk : bk ≤ 3) {ow : Option Nat} {mo : Int32} {K M S be : Nat → Nat} (ho : ∀ k, ow = some k → k < 1000)
    (hKk : ∀ i, i < p → A 11 (8 * bk + i) = K i ∧ K i ≤ 3) (hMm : ∀ i, i < p → A 12 (8 * bk + i) + (if ow = some i then 1 else 0) = M i ∧ 1 ≤ M i ∧ M i ≤ 10)
    (hSs : ∀ i, i < p → ∀ q, q < M i → S (10 * i + q) ≤ 5 ∧ ((ow = some i ∧ q = M i - 1 ∧ mo = nI (S (10 * i + q))) ∨ (¬ (ow = some i ∧ q = M i - 1) ∧ A 13 (10 * (8 * bk + i) + q) = S (10 * i + q))))
    (hbe : ∀ d, d < 6 → A 9 d = be d ∧ be d ≤ 9) : CT g yX7_laySaid cX7_laySaid 10 none rm_X7_laySaid n n w [.ref 59, .int (nI bk), .int (oI ow), .int mo] (R0q (fun w1 => ∃ B, MO w1 B len pl km ∧ fr w w1 59 83 ∧ (∀ a, ¬ a = 17 → ¬ a = 18 → ¬ a = 19 → B a = A a) ∧ Sd B p K M S be)) := by
  have hf : fr w w 59 83 := fr.rf
  refine CT.start [some (.ref 59), some (.int (nI bk)), some (.int (oI ow)), some (.int mo), none, none, none, none, none, none] (by decide +kernel) rfl (Nat.le_of_ble_eq_true rfl) (fun x C hnm => ?_)
  refine ww_iconst C (v := nI 0) dX7_laySaid_0 (by decide) ?_
  refine ww_istore4 C dX7_laySaid_1 (by decide) rfl ?_
  have lp3 : ∀ (m : Nat) (i : Nat) (B : Nat → Nat → Nat) (u : Wd) (z5 z6 z7 z8 z9 : Option Value), i ≤ p → p < i + m → (∀ i2, i2 < i → B 18 i2 = longN K M i2 ∧ B 19 i2 = beatN K M S be i2 ∧ ∀ j, j < longN K M i2 → B 17 (20 * i2 + j) = saidN M S i2 j) → (∀ a, ¬ a = 17 → ¬ a = 18 → ¬ a = 19 → B a = A a) → MO u B len pl km → fr w u 59 83 → WW g x 10 0 0 n u 3 [some (.ref 59), some (.int (nI bk)), some (.int (oI ow)), some (.int mo), some (.int (nI i)), z5, z6, z7, z8, z9] [] := by
    intro m
    induction m with
    | zero =>
      intro i B u z5 z6 z7 z8 z9 hi0 hm hSd hBo hM hf
      exact absurd hm (by omega)
    | succ m ih3 =>
      intro i B u z5 z6 z7 z8 z9 hi0 hm hSd hBo hM hf
      refine ww_iload4 C dX7_laySaid_3 ?_
      refine ww_aload0 C dX7_laySaid_5 ?_
      refine ww_getf C fl_X7_13 hM.1 rfl dX7_laySaid_6 ?_
      refine ww_iconst C (v := nI 0) dX7_laySaid_9 (by decide) ?_
      refine ww_ialdN C hM.a1 (by decide) dX7_laySaid_10 (kk := ?_)
      rw [hBo 1 (by decide) (by decide) (by decide), hp]
      refine ww_icmpgeN C (by omega) (tgt := 231) dX7_laySaid_11 (by decide) (fun c11 => ?_) (fun c11 => ?_)
      · skip
        exact ww_rvq C dX7_laySaid_231 rfl ⟨Nat.le_of_ble_eq_true rfl, Nat.le_of_ble_eq_true rfl⟩ ⟨B, hM, hf, hBo, fun i2 h2 => hSd i2 (by omega)⟩
      · skip
        have hi : i < p := c11
        have hKi := (hKk i hi).2
        have hM1 := (hMm i hi).2.1
        have hM10 := (hMm i hi).2.2
        refine ww_bipush C (v := nI 8) dX7_laySaid_14 (by decide) ?_
        refine ww_iload1 C dX7_laySaid_16 ?_
        refine ww_imulN C dX7_laySaid_17 ?_
        refine ww_iload4 C dX7_laySaid_18 ?_
        refine ww_iaddN C dX7_laySaid_20 ?_
        refine ww_istore5 C dX7_laySaid_21 (by decide) rfl ?_
        refine ww_aload0 C dX7_laySaid_23 ?_
        refine ww_getf C fl_X7_46 hM.1 rfl dX7_laySaid_24 ?_
        refine ww_iload5 C dX7_laySaid_27 ?_
        have jn41 : ∀ (e : Nat), e = (if ow = some i then 1 else 0) → WW g x 10 0 0 n u 41 [some (.ref 59), some (.int (nI bk)), some (.int (oI ow)), some (.int mo), some (.int (nI i)), some (.int (nI (8 * bk + i))), z6, z7, z8, z9] [.int (nI e), .int (nI (A 12 (8 * bk + i)))] := by
          intro e he
          refine ww_iaddN C dX7_laySaid_41 ?_
          rw [show A 12 (8 * bk + i) + e = M i by rw [he]; exact (hMm i hi).1]
          refine ww_istore6 C dX7_laySaid_42 (by decide) rfl ?_
          have jn70 : ∀ (e : Nat), e = onN K M i → WW g x 10 0 0 n u 70 [some (.ref 59), some (.int (nI bk)), some (.int (oI ow)), some (.int mo), some (.int (nI i)), some (.int (nI (8 * bk + i))), some (.int (nI (M i))), z7, z8, z9] [.int (nI e)] := by
            intro e he
            subst he
            refine ww_istore7 C dX7_laySaid_70 (by decide) rfl ?_
            refine ww_aload0 C dX7_laySaid_72 ?_
            refine ww_getf C fl_X7_64 hM.1 rfl dX7_laySaid_73 ?_
            refine ww_iload4 C dX7_laySaid_76 ?_
            have jn98 : ∀ (e : Nat), e = longN K M i → WW g x 10 0 0 n u 98 [some (.ref 59), some (.int (nI bk)), some (.int (oI ow)), some (.int mo), some (.int (nI i)), some (.int (nI (8 * bk + i))), some (.int (nI (M i))), some (.int (nI (onN K M i))), z8, z9] [.int (nI e), .int (nI i), .ref 78] := by
              intro e he
              subst he
              refine ww_iastN C hM.a18 (by omega) dX7_laySaid_98 (kk := fun w1 hw1 => ?_)
              have hf : fr w w1 59 83 := hf.tr (fr.up hw1 (by omega) (by omega))
              obtain ⟨A1, hM, e1, o1⟩ := hM.st 18 (by decide) hw1
              have hBo : ∀ a, ¬ a = 17 → ¬ a = 18 → ¬ a = 19 → A1 a = A a := fun a h1 h2 h3 => (o1 a h2).trans (hBo a h1 h2 h3)
              refine ww_aload0 C dX7_laySaid_99 ?_
              refine ww_getf C fl_X7_67 hM.1 rfl dX7_laySaid_100 ?_
              refine ww_iload4 C dX7_laySaid_103 ?_
              refine ww_iconst C (v := nI 0) dX7_laySaid_105 (by decide) ?_
              refine ww_iastN C hM.a19 (by omega) dX7_laySaid_106 (kk := fun w2 hw2 => ?_)
              have hf : fr w w2 59 83 := hf.tr (fr.up hw2 (by omega) (by omega))
              obtain ⟨A2, hM, e2, o2⟩ := hM.st 19 (by decide) hw2
              have hBo : ∀ a, ¬ a = 17 → ¬ a = 18 → ¬ a = 19 → A2 a = A a := fun a h1 h2 h3 => (o2 a h3).trans (hBo a h1 h2 h3)
              have hl18 : A2 18 i = longN K M i := (congrFun (o2 18 (by decide)) i).trans (up_at e1 rfl)
              have hl19 : A2 19 i = 0 := up_at e2 rfl
              have hSd : ∀ i2, i2 < i → A2 18 i2 = longN K M i2 ∧ A2 19 i2 = beatN K M S be i2 ∧ ∀ j, j < longN K M i2 → A2 17 (20 * i2 + j) = saidN M S i2 j := fun i2 h2 => ⟨(congrFun (o2 18 (by decide)) i2).trans ((up_no e1 (by omega)).trans (hSd i2 h2).1), (up_no e2 (by omega)).trans ((congrFun (o1 19 (by decide)) i2).trans (hSd i2 h2).2.1), fun j hj => (congrFun (o2 17 (by decide)) _).trans ((congrFun (o1 17 (by decide)) _).trans ((hSd i2 h2).2.2 j hj))⟩
              refine ww_iconst C (v := nI 0) dX7_laySaid_107 (by decide) ?_
              refine ww_istore8 C dX7_laySaid_108 (by decide) rfl ?_
              have lp110 : ∀ (m : Nat) (j : Nat) (B : Nat → Nat → Nat) (u : Wd) (z9 : Option Value), j ≤ longN K M i → longN K M i < j + m → B 18 i = longN K M i → B 19 i = bpN K M S be i j → (∀ j2, j2 < j → B 17 (20 * i + j2) = saidN M S i j2) → (∀ i2, i2 < i → B 18 i2 = longN K M i2 ∧ B 19 i2 = beatN K M S be i2 ∧ ∀ j, j < longN K M i2 → B 17 (20 * i2 + j) = saidN M S i2 j) → (∀ a, ¬ a = 17 → ¬ a = 18 → ¬ a = 19 → B a = A a) → MO u B len pl km → fr w u 59 83 → WW g x 10 0 0 n u 110 [some (.ref 59), some (.int (nI bk)), some (.int (oI ow)), some (.int mo), some (.int (nI i)), some (.int (nI (8 * bk + i))), some (.int (nI (M i))), some (.int (nI (onN K M i))), some (.int (nI j)), z9] [] := by
                intro m
                induction m with
                | zero =>
                  intro j B u z9 hj hm hl18 hl19 hj17 hSd hBo hM hf
                  exact absurd hm (by omega)
                | succ m ih110 =>
                  intro j B u z9 hj hm hl18 hl19 hj17 hSd hBo hM hf
                  have hl20 := longN_le (K := K) (hMm i hi).2.2
                  refine ww_iload8 C dX7_laySaid_110 ?_
                  refine ww_aload0 C dX7_laySaid_112 ?_
                  refine ww_getf C fl_X7_64 hM.1 rfl dX7_laySaid_113 ?_
                  refine ww_iload4 C dX7_laySaid_116 ?_
                  refine ww_ialdN C hM.a18 (by omega) dX7_laySaid_118 (kk := ?_)
                  rw [hl18]
                  refine ww_icmpgeN C (by omega) (tgt := 225) dX7_laySaid_119 (by decide) (fun c119 => ?_) (fun c119 => ?_)
                  · skip
                    have ej : j = longN K M i := by omega
                    subst ej
                    refine ww_iincN4 C dX7_laySaid_225 (by decide) rfl ?_
                    refine ww_goto C (tgt := 3) dX7_laySaid_228 (by decide) ?_
                    exact ih3 (i + 1) B _ _ _ _ _ _ (by omega) (by omega) (fun i2 h2 => by by_cases c : i2 = i; rw [c]; exact ⟨hl18, by rw [hl19]; rfl, hj17⟩; exact hSd i2 (by omega)) hBo hM hf
                  · skip
                    refine ww_iload8 C dX7_laySaid_122 ?_
                    refine ww_iload7 C dX7_laySaid_124 ?_
                    refine ww_iremN C (by have := onN_pos (K := K) (hMm i hi).2.1; have := (hMm i hi).2.2; have := longN_le (K := K) (hMm i hi).2.2; omega) dX7_laySaid_126 ?_
                    have hat := at_eq (hKk i hi).2 (hMm i hi).2.1 c119
                    have hsv := hSs i hi _ hat.2
                    have hsd : saidN M S i j = S (10 * i + j % onN K M i) := by unfold saidN; rw [hat.1]
                    rw [← hsd] at hsv
                    refine ww_istore9 C dX7_laySaid_127 (by decide) rfl ?_
                    refine ww_aload0 C dX7_laySaid_129 ?_
                    refine ww_getf C fl_X7_61 hM.1 rfl dX7_laySaid_130 ?_
                    refine ww_bipush C (v := nI 20) dX7_laySaid_133 (by decide) ?_
                    refine ww_iload4 C dX7_laySaid_135 ?_
                    refine ww_imulN C dX7_laySaid_137 ?_
                    refine ww_iload8 C dX7_laySaid_138 ?_
                    refine ww_iaddN C dX7_laySaid_140 ?_
                    have jn173 : ∀ (ev : Int32), ev = nI (saidN M S i j) → WW g x 10 0 0 n u 173 [some (.ref 59), some (.int (nI bk)), some (.int (oI ow)), some (.int mo), some (.int (nI i)), some (.int (nI (8 * bk + i))), some (.int (nI (M i))), some (.int (nI (onN K M i))), some (.int (nI j)), some (.int (nI (j % onN K M i)))] [.int ev, .int (nI (20 * i + j)), .ref 77] := by
                      intro ev he
                      subst he
                      refine ww_iastN C hM.a17 (by have := longN_le (K := K) (hMm i hi).2.2; omega) dX7_laySaid_173 (kk := fun w3 hw3 => ?_)
                      have hf : fr w w3 59 83 := hf.tr (fr.up hw3 (by omega) (by omega))
                      obtain ⟨A3, hM, e3, o3⟩ := hM.st 17 (by decide) hw3
                      have hBo : ∀ a, ¬ a = 17 → ¬ a = 18 → ¬ a = 19 → A3 a = A a := fun a h1 h2 h3 => (o3 a h1).trans (hBo a h1 h2 h3)
                      have hs17 : A3 17 (20 * i + j) = saidN M S i j := up_at e3 rfl
                      refine ww_aload0 C dX7_laySaid_174 ?_
                      refine ww_getf C fl_X7_67 hM.1 rfl dX7_laySaid_175 ?_
                      refine ww_iload4 C dX7_laySaid_178 ?_
                      refine ww_dup2 C dX7_laySaid_180 rfl rfl ?_
                      refine ww_ialdN C hM.a19 (by omega) dX7_laySaid_181 (kk := ?_)
                      rw [show A3 19 i = bpN K M S be i j from (congrFun (o3 19 (by decide)) i).trans hl19]
                      refine ww_aload0 C dX7_laySaid_182 ?_
                      refine ww_getf C fl_X7_37 hM.1 rfl dX7_laySaid_183 ?_
                      refine ww_aload0 C dX7_laySaid_186 ?_
                      refine ww_getf C fl_X7_61 hM.1 rfl dX7_laySaid_187 ?_
                      refine ww_bipush C (v := nI 20) dX7_laySaid_190 (by decide) ?_
                      refine ww_iload4 C dX7_laySaid_192 ?_
                      refine ww_imulN C dX7_laySaid_194 ?_
                      refine ww_iload8 C dX7_laySaid_195 ?_
                      refine ww_iaddN C dX7_laySaid_197 ?_
                      refine ww_ialdN C hM.a17 (by have := longN_le (K := K) (hMm i hi).2.2; omega) dX7_laySaid_198 (kk := ?_)
                      rw [hs17]
                      refine ww_ialdN C hM.a9 (by have := hsv.1; omega) dX7_laySaid_199 (kk := ?_)
                      rw [hBo 9 (by decide) (by decide) (by decide), (hbe _ (Nat.lt_succ_of_le hsv.1)).1]
                      refine ww_aload0 C dX7_laySaid_200 ?_
                      refine ww_getf C fl_X7_43 hM.1 rfl dX7_laySaid_201 ?_
                      refine ww_iload5 C dX7_laySaid_204 ?_
                      have jn216 : ∀ (e : Nat), e = (if K i = 3 then 2 else 1) → WW g x 10 0 0 n w3 216 [some (.ref 59), some (.int (nI bk)), some (.int (oI ow)), some (.int mo), some (.int (nI i)), some (.int (nI (8 * bk + i))), some (.int (nI (M i))), some (.int (nI (onN K M i))), some (.int (nI j)), some (.int (nI (j % onN K M i)))] [.int (nI e), .int (nI (be (saidN M S i j))), .int (nI (bpN K M S be i j)), .int (nI i), .ref 79] := by
                        intro e he
                        subst he
                        refine ww_imulN C dX7_laySaid_216 ?_
                        refine ww_iaddN C dX7_laySaid_217 ?_
                        refine ww_iastN C hM.a19 (by omega) dX7_laySaid_218 (kk := fun w4 hw4 => ?_)
                        have hf : fr w w4 59 83 := hf.tr (fr.up hw4 (by omega) (by omega))
                        obtain ⟨A4, hM, e4, o4⟩ := hM.st 19 (by decide) hw4
                        have hBo : ∀ a, ¬ a = 17 → ¬ a = 18 → ¬ a = 19 → A4 a = A a := fun a h1 h2 h3 => (o4 a h3).trans (hBo a h1 h2 h3)
                        refine ww_iincN8 C dX7_laySaid_219 (by decide) rfl ?_
                        refine ww_goto C (tgt := 110) dX7_laySaid_222 (by decide) ?_
                        exact ih110 (j + 1) A4 _ _ (by omega) (by omega) ((congrFun (o4 18 (by decide)) i).trans ((congrFun (o3 18 (by decide)) i).trans hl18)) ((up_at e4 rfl).trans (bpN_s K M S be i j).symm) (fun j2 h2 => by by_cases c : j2 = j; rw [c]; exact (congrFun (o4 17 (by decide)) _).trans hs17; exact (congrFun (o4 17 (by decide)) _).trans ((up_no e3 (by omega)).trans (hj17 j2 (by omega)))) (fun i2 h2 => ⟨(congrFun (o4 18 (by decide)) i2).trans ((congrFun (o3 18 (by decide)) i2).trans (hSd i2 h2).1), (up_no e4 (by omega)).trans ((congrFun (o3 19 (by decide)) i2).trans (hSd i2 h2).2.1), fun j3 hj => (congrFun (o4 17 (by decide)) _).trans ((up_no e3 (by have := longN_le (K := K) (hMm i2 (by omega)).2.2; omega)).trans ((hSd i2 h2).2.2 j3 hj))⟩) hBo hM hf
                      refine ww_ialdN C hM.a11 (by omega) dX7_laySaid_206 (kk := ?_)
                      rw [hBo 11 (by decide) (by decide) (by decide), (hKk i hi).1]
                      refine ww_iconst C (v := nI 3) dX7_laySaid_207 (by decide) ?_
                      refine ww_icmpneN C (by have := (hKk i hi).2; omega) (tgt := 215) dX7_laySaid_208 (by decide) (fun c208 => ?_) (fun c208 => ?_)
                      · skip
                        refine ww_iconst C (v := nI 1) dX7_laySaid_215 (by decide) ?_
                        exact jn216 1 (by rw [if_neg c208])
                      · skip
                        refine ww_iconst C (v := nI 2) dX7_laySaid_211 (by decide) ?_
                        refine ww_goto C (tgt := 216) dX7_laySaid_212 (by decide) ?_
                        exact jn216 2 (by rw [if_pos c208])
                    refine ww_iload4 C dX7_laySaid_141 ?_
                    refine ww_iload2 C dX7_laySaid_143 ?_
                    refine ww_icmpne C (tgt := 160) dX7_laySaid_144 (by decide) (fun c144 => ?_) (fun c144 => ?_)
                    · skip
                      refine ww_aload0 C dX7_laySaid_160 ?_
                      refine ww_getf C fl_X7_49 hM.1 rfl dX7_laySaid_161 ?_
                      refine ww_bipush C (v := nI 10) dX7_laySaid_164 (by decide) ?_
                      refine ww_iload5 C dX7_laySaid_166 ?_
                      refine ww_imulN C dX7_laySaid_168 ?_
                      refine ww_iload9 C dX7_laySaid_169 ?_
                      refine ww_iaddN C dX7_laySaid_171 ?_
                      refine ww_ialdN C hM.a13 (by omega) dX7_laySaid_172 (kk := ?_)
                      rw [hBo 13 (by decide) (by decide) (by decide)]
                      exact jn173 _ (by rcases hsv.2 with h | h; exact absurd ((oI_some (by omega) ho).mpr h.1) c144; rw [h.2])
                    · skip
                      refine ww_iload9 C dX7_laySaid_147 ?_
                      refine ww_iload6 C dX7_laySaid_149 ?_
                      refine ww_iconst C (v := nI 1) dX7_laySaid_151 (by decide) ?_
                      refine ww_isubN C (by have := (hMm i hi).2.1; omega) dX7_laySaid_152 ?_
                      refine ww_icmpneN C (by have := (hMm i hi).2.2; omega) (tgt := 160) dX7_laySaid_153 (by decide) (fun c153 => ?_) (fun c153 => ?_)
                      · skip
                        refine ww_aload0 C dX7_laySaid_160 ?_
                        refine ww_getf C fl_X7_49 hM.1 rfl dX7_laySaid_161 ?_
                        refine ww_bipush C (v := nI 10) dX7_laySaid_164 (by decide) ?_
                        refine ww_iload5 C dX7_laySaid_166 ?_
                        refine ww_imulN C dX7_laySaid_168 ?_
                        refine ww_iload9 C dX7_laySaid_169 ?_
                        refine ww_iaddN C dX7_laySaid_171 ?_
                        refine ww_ialdN C hM.a13 (by omega) dX7_laySaid_172 (kk := ?_)
                        rw [hBo 13 (by decide) (by decide) (by decide)]
                        exact jn173 _ (by rcases hsv.2 with h | h; exact absurd h.2.1 c153; rw [h.2])
                      · skip
                        refine ww_iload3 C dX7_laySaid_156 ?_
                        refine ww_goto C (tgt := 173) dX7_laySaid_157 (by decide) ?_
                        exact jn173 _ (by rcases hsv.2 with h | h; exact h.2.2; exact absurd (And.intro ((oI_some (by omega) ho).mp c144) c153) h.1)
              exact lp110 (longN K M i + 1) 0 A2 _ _ (by omega) (by omega) hl18 (by rw [hl19]; unfold bpN; split <;> rfl) (fun j2 h2 => absurd h2 (Nat.not_lt_zero _)) hSd hBo hM hf
            refine ww_aload0 C dX7_laySaid_78 ?_
            refine ww_getf C fl_X7_43 hM.1 rfl dX7_laySaid_79 ?_
            refine ww_iload5 C dX7_laySaid_82 ?_
            refine ww_ialdN C hM.a11 (by omega) dX7_laySaid_84 (kk := ?_)
            rw [hBo 11 (by decide) (by decide) (by decide), (hKk i hi).1]
            refine ww_iconst C (v := nI 1) dX7_laySaid_85 (by decide) ?_
            refine ww_icmpleN C (by omega) (tgt := 96) dX7_laySaid_86 (by decide) (fun c86 => ?_) (fun c86 => ?_)
            · skip
              refine ww_iload7 C dX7_laySaid_96 ?_
              exact jn98 _ (by rw [longN_on (hKk i hi).2, if_neg (by omega)])
            · skip
              refine ww_iconst C (v := nI 2) dX7_laySaid_89 (by decide) ?_
              refine ww_iload7 C dX7_laySaid_90 ?_
              refine ww_imulN C dX7_laySaid_92 ?_
              refine ww_goto C (tgt := 98) dX7_laySaid_93 (by decide) ?_
              exact jn98 _ (by rw [longN_on (hKk i hi).2, if_pos (by omega)])
          refine ww_aload0 C dX7_laySaid_44 ?_
          refine ww_getf C fl_X7_43 hM.1 rfl dX7_laySaid_45 ?_
          refine ww_iload5 C dX7_laySaid_48 ?_
          refine ww_ialdN C hM.a11 (by omega) dX7_laySaid_50 (kk := ?_)
          rw [hBo 11 (by decide) (by decide) (by decide), (hKk i hi).1]
          refine ww_iconst C (v := nI 1) dX7_laySaid_51 (by decide) ?_
          refine ww_icmpneN C (by omega) (tgt := 68) dX7_laySaid_52 (by decide) (fun c52 => ?_) (fun c52 => ?_)
          · skip
            refine ww_iload6 C dX7_laySaid_68 ?_
            exact jn70 _ (by unfold onN; rw [if_neg (fun e => c52 e.1)])
          · skip
            refine ww_iload6 C dX7_laySaid_55 ?_
            refine ww_iconst C (v := nI 1) dX7_laySaid_57 (by decide) ?_
            refine ww_icmpleN C (by omega) (tgt := 68) dX7_laySaid_58 (by decide) (fun c58 => ?_) (fun c58 => ?_)
            · skip
              refine ww_iload6 C dX7_laySaid_68 ?_
              exact jn70 _ (by unfold onN; rw [if_neg (by omega)])
            · skip
              refine ww_iload6 C dX7_laySaid_61 ?_
              refine ww_iconst C (v := nI 1) dX7_laySaid_63 (by decide) ?_
              refine ww_isubN C (by omega) dX7_laySaid_64 ?_
              refine ww_goto C (tgt := 70) dX7_laySaid_65 (by decide) ?_
              exact jn70 _ (by unfold onN; rw [if_pos (And.intro c52 c58)])
        refine ww_ialdN C hM.a12 (by omega) dX7_laySaid_29 (kk := ?_)
        rw [hBo 12 (by decide) (by decide) (by decide)]
        refine ww_iload4 C dX7_laySaid_30 ?_
        refine ww_iload2 C dX7_laySaid_32 ?_
        refine ww_icmpne C (tgt := 40) dX7_laySaid_33 (by decide) (fun c33 => ?_) (fun c33 => ?_)
        · skip
          refine ww_iconst C (v := nI 0) dX7_laySaid_40 (by decide) ?_
          exact jn41 0 (by rw [if_neg (fun e => c33 ((oI_some (by omega) ho).mpr e))])
        · skip
          refine ww_iconst C (v := nI 1) dX7_laySaid_36 (by decide) ?_
          refine ww_goto C (tgt := 41) dX7_laySaid_37 (by decide) ?_
          exact jn41 1 (by rw [if_pos ((oI_some (by omega) ho).mp c33)])
  exact lp3 (p + 1) 0 A _ _ _ _ _ _ (by omega) (by omega) (fun i2 h2 => absurd h2 (Nat.not_lt_zero _)) (fun _ _ _ _ => rfl) hM hf
