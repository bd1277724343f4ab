theorem or02 {b : Nat → Bool} {c : Bool} {i : Nat} : ((if (c || anyN b i) = true then 1 else 0) ||| (if b i = true then 1 else 0)) = (if (c || anyN b (i + 1)) = true then 1 else 0) := by
  show _ = (if (c || (anyN b i || b i)) = true then 1 else 0)
  cases c <;> cases anyN b i <;> cases b i <;> rfl
theorem fo_m {p : Nat} (hp : p ≤ 8) {Pa cr : Nat → Nat} {l s d : Nat} (hs : s < 256) (hd : d ≤ s) : (if (decide (d = s) || anyN (fun i => decide (d &&& s = d) && nsB (foN p Pa cr l s) cr Pa s d l i) p) = true then 1 else 0) = foN p Pa cr l s d := by
  rw [foN_eq hp Pa cr l hs hd]
  by_cases c1 : d = s
  · rw [decide_eq_true c1, Bool.true_or, if_pos rfl, if_pos ⟨by rw [c1, Nat.and_self], Or.inl c1⟩]
  · rw [decide_eq_false c1, Bool.false_or]
    by_cases c2 : d &&& s = d
    · rw [decide_eq_true c2]
      simp only [Bool.true_and]
      by_cases c3 : anyN (nsB (foN p Pa cr l s) cr Pa s d l) p = true
      · rw [if_pos c3, if_pos ⟨c2, Or.inr c3⟩]
      · rw [if_neg c3, if_neg (fun e => e.2.elim c1 c3)]
    · have e0 : ¬ anyN (fun i => decide (d &&& s = d) && nsB (foN p Pa cr l s) cr Pa s d l i) p = true := fun e => by
        obtain ⟨i, hi, h2⟩ := anyN_e e
        rw [Bool.and_eq_true, decide_eq_true_iff] at h2
        exact c2 h2.1
      rw [if_neg e0, if_neg (fun e : d &&& s = d ∧ _ => c2 e.1)]
theorem foN_b {p : Nat} (hp : p ≤ 8) {Pa cr : Nat → Nat} {l s d : Nat} (hs : s < 256) (hd : d ≤ s) : foN p Pa cr l s d = 0 ∨ foN p Pa cr l s d = 1 := by
  rw [foN_eq hp Pa cr l hs hd]
  split
  · exact Or.inr rfl
  · exact Or.inl rfl
theorem fo_x0 {A T Pa : Nat → Nat} {s d l i : Nat} (h : (tb s i && (!tb d i && decide (d &&& s = d))) = false) : (if (fun i => decide (d &&& s = d) && nsB A T Pa s d l i) i = true then 1 else 0) = 0 := by
  show (if (decide (d &&& s = d) && nsB A T Pa s d l i) = true then 1 else 0) = 0
  unfold nsB
  revert h
  cases tb s i <;> cases tb d i <;> cases decide (d &&& s = d) <;> simp
theorem m_layFollows (g : Gx) (n : Nat) (w : Wd) {A : Nat → Nat → Nat} {len pl km : Nat} (hM : MO w A len pl km) {h : Hs} {a : Ms} (hSy : Sy A h a) (hB : Bd h a) {s l : Nat} (hs8 : s < 256) (hl : l ≤ 999) : CT g yX7_layFollows cX7_layFollows 6 none rm_X7_layFollows n n w [.ref 59, .int (nI s), .int (nI l)] (R0q (fun w1 => ∃ D, MO w1 D len pl km ∧ fr w w1 59 83 ∧ (∀ b, ¬ b = 21 → D b = A b) ∧ (∀ d, d ≤ s → D 21 d = (foN h.2.2.2.1 h.2.2.2.2.1 (cryN h.2.2.2.1 (longN a.1 a.2.1) (beatN a.1 a.2.1 a.2.2.1 h.2.2.2.2.2.2.2.2.1) h.2.2.2.2.2.2.2.2.2.1 h.2.2.2.2.2.2.2.2.2.2.1) l s) d) ∧ Sy D h a)) := by
  have hf : fr w w 59 83 := fr.rf
  obtain ⟨⟨hp1, hp8⟩, ⟨hb1, hb12, hv20, hmi9⟩, hK3, hM10, hS5, hM1, hX99, hR9, hwo5, hsh1, hbe9, hhd9, hhn12⟩ := id hB
  refine CT.start [some (.ref 59), some (.int (nI s)), some (.int (nI l)), none, none, none] (by decide +kernel) rfl (Nat.le_of_ble_eq_true rfl) (fun x C hnm => ?_)
  refine ww_iload1 C dX7_layFollows_0 ?_
  refine ww_istore3 C dX7_layFollows_1 (by decide) rfl ?_
  have lp2 : ∀ (m : Nat) (r : Nat) (ez : Int32) (D : Nat → Nat → Nat) (u : Wd) (z4 z5 : Option Value), r ≤ s + 1 → r < m → ez = nI r - 1 → (∀ b, ¬ b = 21 → D b = A b) → (∀ e, r ≤ e → e ≤ s → D 21 e = (foN h.2.2.2.1 h.2.2.2.2.1 (cryN h.2.2.2.1 (longN a.1 a.2.1) (beatN a.1 a.2.1 a.2.2.1 h.2.2.2.2.2.2.2.2.1) h.2.2.2.2.2.2.2.2.2.1 h.2.2.2.2.2.2.2.2.2.2.1) l s) e) → Sy D h a → MO u D len pl km → fr w u 59 83 → WW g x 6 0 0 n u 2 [some (.ref 59), some (.int (nI s)), some (.int (nI l)), some (.int ez), z4, z5] [] := by
    intro m
    induction m with
    | zero =>
      intro r ez D u z4 z5 hr0 hm hez hBo hpo hSy hM hf
      exact absurd hm (by omega)
    | succ m ih2 =>
      intro r ez D u z4 z5 hr0 hm hez hBo hpo hSy hM hf
      subst hez
      rcases r with _ | d
      · skip
        refine ww_iload3 C dX7_layFollows_2 ?_
        refine ww_iflt C (tgt := 131) dX7_layFollows_3 (by decide) (fun c3 => ?_) (fun c3 => ?_)
        · skip
          exact ww_rvq C dX7_layFollows_131 rfl ⟨Nat.le_of_ble_eq_true rfl, Nat.le_of_ble_eq_true rfl⟩ ⟨D, hM, hf, hBo, fun d hd => hpo d (by omega) hd, hSy⟩
        · skip
          exact absurd (by decide) c3
      · skip
        rw [nI_pred]
        have hpost : (∀ e, d < e → e ≤ s → D 21 e = (foN h.2.2.2.1 h.2.2.2.2.1 (cryN h.2.2.2.1 (longN a.1 a.2.1) (beatN a.1 a.2.1 a.2.2.1 h.2.2.2.2.2.2.2.2.1) h.2.2.2.2.2.2.2.2.2.1 h.2.2.2.2.2.2.2.2.2.2.1) l s) e) := fun e h1 h2 => hpo e (by omega) h2
        refine ww_iload3 C dX7_layFollows_2 ?_
        refine ww_iflt C (tgt := 131) dX7_layFollows_3 (by decide) (fun c3 => ?_) (fun c3 => ?_)
        · skip
          exact absurd c3 (nI_pos (by omega))
        · skip
          have hds : d ≤ s := by omega
          refine ww_aload0 C dX7_layFollows_6 ?_
          refine ww_getf C fl_X7_73 hM.1 rfl dX7_layFollows_7 ?_
          refine ww_iload3 C dX7_layFollows_10 ?_
          have jn21 : ∀ (e : Nat), e = (if d = s then 1 else 0) → WW g x 6 0 0 n u 21 [some (.ref 59), some (.int (nI s)), some (.int (nI l)), some (.int (nI d)), z4, z5] [.int (nI e), .int (nI d), .ref 81] := by
            intro e he
            refine ww_iastN C hM.a21 (by omega) dX7_layFollows_21 (kk := fun w1 hw1 => ?_)
            have hf : fr w w1 59 83 := hf.tr (fr.up hw1 (by omega) (by omega))
            obtain ⟨A1, hM, e1, o1⟩ := hM.st 21 (by decide) hw1
            refine ww_iconst C (v := nI 0) dX7_layFollows_22 (by decide) ?_
            refine ww_istore4 C dX7_layFollows_23 (by decide) rfl ?_
            have lp25 : ∀ (m : Nat) (i : Nat) (D : Nat → Nat → Nat) (u : Wd) (z5 : Option Value), i ≤ h.2.2.2.1 → h.2.2.2.1 < i + m → (∀ b, ¬ b = 21 → D b = A b) → (∀ e, d < e → e ≤ s → D 21 e = (foN h.2.2.2.1 h.2.2.2.2.1 (cryN h.2.2.2.1 (longN a.1 a.2.1) (beatN a.1 a.2.1 a.2.2.1 h.2.2.2.2.2.2.2.2.1) h.2.2.2.2.2.2.2.2.2.1 h.2.2.2.2.2.2.2.2.2.2.1) l s) e) → D 21 d = (if (decide (d = s) || anyN (fun i => decide (d &&& s = d) && nsB (foN h.2.2.2.1 h.2.2.2.2.1 (cryN h.2.2.2.1 (longN a.1 a.2.1) (beatN a.1 a.2.1 a.2.2.1 h.2.2.2.2.2.2.2.2.1) h.2.2.2.2.2.2.2.2.2.1 h.2.2.2.2.2.2.2.2.2.2.1) l s) (cryN h.2.2.2.1 (longN a.1 a.2.1) (beatN a.1 a.2.1 a.2.2.1 h.2.2.2.2.2.2.2.2.1) h.2.2.2.2.2.2.2.2.2.1 h.2.2.2.2.2.2.2.2.2.2.1) h.2.2.2.2.1 s d l i) i) = true then 1 else 0) → Sy D h a → MO u D len pl km → fr w u 59 83 → WW g x 6 0 0 n u 25 [some (.ref 59), some (.int (nI s)), some (.int (nI l)), some (.int (nI d)), some (.int (nI i)), z5] [] := by
              intro m
              induction m with
              | zero =>
                intro i D u z5 hi0 hm hBo hpost he21 hSy hM hf
                exact absurd hm (by omega)
              | succ m ih25 =>
                intro i D u z5 hi0 hm hBo hpost he21 hSy hM hf
                refine ww_iload4 C dX7_layFollows_25 ?_
                refine ww_aload0 C dX7_layFollows_27 ?_
                refine ww_getf C fl_X7_13 hM.1 rfl dX7_layFollows_28 ?_
                refine ww_iconst C (v := nI 0) dX7_layFollows_31 (by decide) ?_
                refine ww_ialdN C hM.a1 (by decide) dX7_layFollows_32 (kk := ?_)
                rw [hSy.1]
                refine ww_icmpgeN C (by omega) (tgt := 125) dX7_layFollows_33 (by decide) (fun c33 => ?_) (fun c33 => ?_)
                · skip
                  have ei : i = h.2.2.2.1 := by omega
                  rw [ei, fo_m hp8 hs8 hds] at he21
                  refine ww_iinc3 C (u := nI d - 1) dX7_layFollows_125 (dec1 _) (by decide) rfl ?_
                  refine ww_goto C (tgt := 2) dX7_layFollows_128 (by decide) ?_
                  exact ih2 d _ D _ _ _ (by omega) (by omega) rfl hBo (fun e h1 h2 => by by_cases c : e = d; (rw [c]; exact he21); (exact hpost e (by omega) h2)) hSy hM hf
                · skip
                  have jn67 : ∀ (e : Nat), e = (if (tb s i && (!tb d i && decide (d &&& s = d))) = true then 1 else 0) → WW g x 6 0 0 n u 67 [some (.ref 59), some (.int (nI s)), some (.int (nI l)), some (.int (nI d)), some (.int (nI i)), z5] [.int (nI e)] := by
                    intro e he
                    refine ww_istore5 C dX7_layFollows_67 (by decide) rfl ?_
                    refine ww_aload0 C dX7_layFollows_69 ?_
                    refine ww_getf C fl_X7_73 hM.1 rfl dX7_layFollows_70 ?_
                    refine ww_iload3 C dX7_layFollows_73 ?_
                    refine ww_dup2 C dX7_layFollows_74 rfl rfl ?_
                    refine ww_ialdN C hM.a21 (by omega) dX7_layFollows_75 (kk := ?_)
                    rw [he21]
                    have jn117 : ∀ (e2 : Nat), e2 = (if (fun i => decide (d &&& s = d) && nsB (foN h.2.2.2.1 h.2.2.2.2.1 (cryN h.2.2.2.1 (longN a.1 a.2.1) (beatN a.1 a.2.1 a.2.2.1 h.2.2.2.2.2.2.2.2.1) h.2.2.2.2.2.2.2.2.2.1 h.2.2.2.2.2.2.2.2.2.2.1) l s) (cryN h.2.2.2.1 (longN a.1 a.2.1) (beatN a.1 a.2.1 a.2.2.1 h.2.2.2.2.2.2.2.2.1) h.2.2.2.2.2.2.2.2.2.1 h.2.2.2.2.2.2.2.2.2.2.1) h.2.2.2.2.1 s d l i) i = true then 1 else 0) → WW g x 6 0 0 n u 117 [some (.ref 59), some (.int (nI s)), some (.int (nI l)), some (.int (nI d)), some (.int (nI i)), some (.int (nI e))] [.int (nI e2), .int (nI (if (decide (d = s) || anyN (fun i => decide (d &&& s = d) && nsB (foN h.2.2.2.1 h.2.2.2.2.1 (cryN h.2.2.2.1 (longN a.1 a.2.1) (beatN a.1 a.2.1 a.2.2.1 h.2.2.2.2.2.2.2.2.1) h.2.2.2.2.2.2.2.2.2.1 h.2.2.2.2.2.2.2.2.2.2.1) l s) (cryN h.2.2.2.1 (longN a.1 a.2.1) (beatN a.1 a.2.1 a.2.2.1 h.2.2.2.2.2.2.2.2.1) h.2.2.2.2.2.2.2.2.2.1 h.2.2.2.2.2.2.2.2.2.2.1) h.2.2.2.2.1 s d l i) i) = true then 1 else 0)), .int (nI d), .ref 81] := by
                      intro e2 he2
                      subst he2
                      refine ww_iorN C dX7_layFollows_117 ?_
                      rw [or02]
                      refine ww_iastN C hM.a21 (by omega) dX7_layFollows_118 (kk := fun w2 hw2 => ?_)
                      have hf : fr w w2 59 83 := hf.tr (fr.up hw2 (by omega) (by omega))
                      obtain ⟨A2, hM, e2, o2⟩ := hM.st 21 (by decide) hw2
                      refine ww_iincN4 C dX7_layFollows_119 (by decide) rfl ?_
                      refine ww_goto C (tgt := 25) dX7_layFollows_122 (by decide) ?_
                      exact ih25 (i + 1) A2 _ _ (by omega) (by omega) (fun b hb => (o2 b hb).trans (hBo b hb)) (fun e h1 h2 => (up_no e2 (by omega)).trans (hpost e h1 h2)) (up_at e2 rfl) (hSy.eqv (fun b _ h1 _ => o2 b h1)) hM hf
                    refine ww_iload5 C dX7_layFollows_76 ?_
                    refine ww_ifeqN C (by rw [he]; split <;> decide) (tgt := 116) dX7_layFollows_78 (by decide) (fun c78 => ?_) (fun c78 => ?_)
                    · skip
                      have hmay : (tb s i && (!tb d i && decide (d &&& s = d))) = false := by
                        rw [he] at c78
                        cases hq : (tb s i && (!tb d i && decide (d &&& s = d)))
                        · rfl
                        · rw [hq] at c78; exact absurd c78 (by decide)
                      refine ww_iconst C (v := nI 0) dX7_layFollows_116 (by decide) ?_
                      exact jn117 0 (fo_x0 hmay).symm
                    · skip
                      have hmay : (tb s i && (!tb d i && decide (d &&& s = d))) = true := by
                        rw [he] at c78
                        cases hq : (tb s i && (!tb d i && decide (d &&& s = d)))
                        · rw [hq] at c78; exact absurd rfl c78
                        · rfl
                      rw [Bool.and_eq_true, Bool.and_eq_true, Bool.not_eq_true', decide_eq_true_iff] at hmay
                      obtain ⟨m1, m2, m3⟩ := hmay
                      have hor := or_gt (s := d) (i := i) (by omega) (by omega) m2
                      have hor2 := sub_le (or_sub m3 m1)
                      refine ww_aload0 C dX7_layFollows_81 ?_
                      refine ww_iload3 C dX7_layFollows_82 ?_
                      refine ww_iconst C (v := nI 1) dX7_layFollows_83 (by decide) ?_
                      refine ww_iload4 C dX7_layFollows_84 ?_
                      refine ww_shl1N C (by omega) dX7_layFollows_86 ?_
                      refine ww_iorN C dX7_layFollows_87 ?_
                      refine ww_iload4 C dX7_layFollows_88 ?_
                      refine ww_iload2 C dX7_layFollows_90 ?_
                      refine ww_cV3v C hM.1 rfl (m_isInTime g n u hM (s := d ||| 2 ^ i) (i := i) (Pa := h.2.2.2.2.1) (Lo := longN a.1 a.2.1) (Be := beatN a.1 a.2.1 a.2.2.1 h.2.2.2.2.2.2.2.2.1) hSy.1 hp8 hSy.2.1 (And.intro hb1 hb12) hSy.2.2.1 hv20 (by omega) hSy.2.2.2.1 hSy.2.2.2.2.1 (hSy.2.2.2.2.2 i c33).1 (hX99 _) (by omega) hl) kV_X7_162 ⟨Nat.le_of_ble_eq_true rfl, Nat.le_of_ble_eq_true rfl⟩ ⟨rfl, rfl⟩ ⟨Nat.le_of_ble_eq_true rfl, Nat.le_of_ble_eq_true rfl⟩ (Nat.le_of_ble_eq_true rfl) dX7_layFollows_91 ?_
                      refine ww_ifeqB C (tgt := 116) dX7_layFollows_94 (by decide) (fun c94 => ?_) (fun c94 => ?_)
                      · skip
                        refine ww_iconst C (v := nI 0) dX7_layFollows_116 (by decide) ?_
                        exact jn117 0 (by show _ = if (decide (d &&& s = d) && nsB (foN h.2.2.2.1 h.2.2.2.2.1 (cryN h.2.2.2.1 (longN a.1 a.2.1) (beatN a.1 a.2.1 a.2.2.1 h.2.2.2.2.2.2.2.2.1) h.2.2.2.2.2.2.2.2.2.1 h.2.2.2.2.2.2.2.2.2.2.1) l s) (cryN h.2.2.2.1 (longN a.1 a.2.1) (beatN a.1 a.2.1 a.2.2.1 h.2.2.2.2.2.2.2.2.1) h.2.2.2.2.2.2.2.2.2.1 h.2.2.2.2.2.2.2.2.2.2.1) h.2.2.2.2.1 s d l i) = true then 1 else 0; unfold nsB; rw [c94, Bool.and_false, Bool.and_false, Bool.and_false, Bool.and_false]; rfl)
                      · skip
                        refine ww_aload0 C dX7_layFollows_97 ?_
                        refine ww_getf C fl_X7_73 hM.1 rfl dX7_layFollows_98 ?_
                        refine ww_iload3 C dX7_layFollows_101 ?_
                        refine ww_iconst C (v := nI 1) dX7_layFollows_102 (by decide) ?_
                        refine ww_iload4 C dX7_layFollows_103 ?_
                        refine ww_shl1N C (by omega) dX7_layFollows_105 ?_
                        refine ww_iorN C dX7_layFollows_106 ?_
                        refine ww_ialdN C hM.a21 (by omega) dX7_layFollows_107 (kk := ?_)
                        rw [hpost _ hor hor2]
                        refine ww_iconst C (v := nI 1) dX7_layFollows_108 (by decide) ?_
                        refine ww_icmpneN C (⟨by rcases foN_b hp8 (Pa := h.2.2.2.2.1) (cr := (cryN h.2.2.2.1 (longN a.1 a.2.1) (beatN a.1 a.2.1 a.2.2.1 h.2.2.2.2.2.2.2.2.1) h.2.2.2.2.2.2.2.2.2.1 h.2.2.2.2.2.2.2.2.2.2.1)) (l := l) hs8 hor2 with e | e <;> rw [e] <;> decide, by decide⟩) (tgt := 116) dX7_layFollows_109 (by decide) (fun c109 => ?_) (fun c109 => ?_)
                        · skip
                          refine ww_iconst C (v := nI 0) dX7_layFollows_116 (by decide) ?_
                          exact jn117 0 (by show _ = if (decide (d &&& s = d) && nsB (foN h.2.2.2.1 h.2.2.2.2.1 (cryN h.2.2.2.1 (longN a.1 a.2.1) (beatN a.1 a.2.1 a.2.2.1 h.2.2.2.2.2.2.2.2.1) h.2.2.2.2.2.2.2.2.2.1 h.2.2.2.2.2.2.2.2.2.2.1) l s) (cryN h.2.2.2.1 (longN a.1 a.2.1) (beatN a.1 a.2.1 a.2.2.1 h.2.2.2.2.2.2.2.2.1) h.2.2.2.2.2.2.2.2.2.1 h.2.2.2.2.2.2.2.2.2.2.1) h.2.2.2.2.1 s d l i) = true then 1 else 0; unfold nsB; rw [decide_eq_false c109, Bool.false_and, Bool.and_false, Bool.and_false, Bool.and_false]; rfl)
                        · skip
                          refine ww_iconst C (v := nI 1) dX7_layFollows_112 (by decide) ?_
                          refine ww_goto C (tgt := 117) dX7_layFollows_113 (by decide) ?_
                          exact jn117 1 (by show _ = if (decide (d &&& s = d) && nsB (foN h.2.2.2.1 h.2.2.2.2.1 (cryN h.2.2.2.1 (longN a.1 a.2.1) (beatN a.1 a.2.1 a.2.2.1 h.2.2.2.2.2.2.2.2.1) h.2.2.2.2.2.2.2.2.2.1 h.2.2.2.2.2.2.2.2.2.2.1) l s) (cryN h.2.2.2.1 (longN a.1 a.2.1) (beatN a.1 a.2.1 a.2.2.1 h.2.2.2.2.2.2.2.2.1) h.2.2.2.2.2.2.2.2.2.1 h.2.2.2.2.2.2.2.2.2.2.1) h.2.2.2.2.1 s d l i) = true then 1 else 0; unfold nsB; rw [m1, m2, decide_eq_true m3, decide_eq_true c109, c94]; rfl)
                  refine ww_iload1 C dX7_layFollows_36 ?_
                  refine ww_iload4 C dX7_layFollows_37 ?_
                  refine ww_cS2v C (c_mhas g n u (s := s) (i := i) (by omega) (by omega)) kS_X7_153 ⟨Nat.le_of_ble_eq_true rfl, Nat.le_of_ble_eq_true rfl⟩ ⟨rfl, rfl⟩ ⟨Nat.le_of_ble_eq_true rfl, Nat.le_of_ble_eq_true rfl⟩ (Nat.le_of_ble_eq_true rfl) dX7_layFollows_39 ?_
                  refine ww_ifeqB C (tgt := 66) dX7_layFollows_42 (by decide) (fun c42 => ?_) (fun c42 => ?_)
                  · skip
                    refine ww_iconst C (v := nI 0) dX7_layFollows_66 (by decide) ?_
                    exact jn67 0 (by rw [c42]; rfl)
                  · skip
                    refine ww_iload3 C dX7_layFollows_45 ?_
                    refine ww_iload4 C dX7_layFollows_46 ?_
                    refine ww_cS2v C (c_mhas g n u (s := d) (i := i) (by omega) (by omega)) kS_X7_153 ⟨Nat.le_of_ble_eq_true rfl, Nat.le_of_ble_eq_true rfl⟩ ⟨rfl, rfl⟩ ⟨Nat.le_of_ble_eq_true rfl, Nat.le_of_ble_eq_true rfl⟩ (Nat.le_of_ble_eq_true rfl) dX7_layFollows_48 ?_
                    refine ww_ifneB C (tgt := 66) dX7_layFollows_51 (by decide) (fun c51 => ?_) (fun c51 => ?_)
                    · skip
                      refine ww_iconst C (v := nI 0) dX7_layFollows_66 (by decide) ?_
                      exact jn67 0 (by rw [c51, Bool.not_true, Bool.false_and, Bool.and_false]; rfl)
                    · skip
                      refine ww_iload3 C dX7_layFollows_54 ?_
                      refine ww_iload1 C dX7_layFollows_55 ?_
                      refine ww_iconst C (v := -1) dX7_layFollows_56 (by decide) ?_
                      refine ww_ixor C dX7_layFollows_57 ?_
                      refine ww_iand C dX7_layFollows_58 ?_
                      refine ww_topi (andn (by omega)) ?_
                      refine ww_ifneN C (by have := dif_lt s (a := d) (by omega); omega) (tgt := 66) dX7_layFollows_59 (by decide) (fun c59 => ?_) (fun c59 => ?_)
                      · skip
                        have c59 := fun e => c59 ((and_dif (d := d) (s := s) (by omega)).mpr e)
                        refine ww_iconst C (v := nI 0) dX7_layFollows_66 (by decide) ?_
                        exact jn67 0 (by rw [decide_eq_false c59, Bool.and_false, Bool.and_false]; rfl)
                      · skip
                        have c59 := (and_dif (by omega)).mp c59
                        refine ww_iconst C (v := nI 1) dX7_layFollows_62 (by decide) ?_
                        refine ww_goto C (tgt := 67) dX7_layFollows_63 (by decide) ?_
                        exact jn67 1 (by rw [c42, c51, decide_eq_true c59]; rfl)
            exact lp25 (h.2.2.2.1 + 1) 0 A1 _ _ (by omega) (by omega) (fun b hb => (o1 b hb).trans (hBo b hb)) (fun e h1 h2 => (up_no e1 (by omega)).trans (hpost e h1 h2)) ((up_at e1 rfl).trans (by rw [he]; by_cases c : d = s; (rw [if_pos c, decide_eq_true c]; rfl); (rw [if_neg c, decide_eq_false c]; rfl))) (hSy.eqv (fun b _ h1 _ => o1 b h1)) hM hf
          refine ww_iload3 C dX7_layFollows_11 ?_
          refine ww_iload1 C dX7_layFollows_12 ?_
          refine ww_icmpneN C (by omega) (tgt := 20) dX7_layFollows_13 (by decide) (fun c13 => ?_) (fun c13 => ?_)
          · skip
            refine ww_iconst C (v := nI 0) dX7_layFollows_20 (by decide) ?_
            exact jn21 0 (by rw [if_neg c13])
          · skip
            refine ww_iconst C (v := nI 1) dX7_layFollows_16 (by decide) ?_
            refine ww_goto C (tgt := 21) dX7_layFollows_17 (by decide) ?_
            exact jn21 1 (by rw [if_pos c13])
  exact lp2 (s + 2) (s + 1) _ A _ _ _ (by omega) (by omega) (by rw [nI_pred]) (fun _ _ => rfl) (fun e h1 h2 => absurd h1 (by omega)) hSy hM hf
theorem bw_ok (h : Hs) (a : Ms) (hp : h.2.2.2.1 ≤ 8) (l : Nat) : B_warn h a l < 2 ^ h.2.2.2.1 ∧ foN h.2.2.2.1 h.2.2.2.2.1 (cryN h.2.2.2.1 (longN a.1 a.2.1) (beatN a.1 a.2.1 a.2.2.1 h.2.2.2.2.2.2.2.2.1) h.2.2.2.2.2.2.2.2.2.1 h.2.2.2.2.2.2.2.2.2.2.1) l (B_warn h a l) 0 = 1 := by
  have h1 : B_warn h a l < 2 ^ h.2.2.2.1 := bsN_lt _ (Nat.two_pow_pos _)
  have h2 := p256 hp
  refine ⟨h1, ?_⟩
  have h3 : cov (savF h.2.2.2.1 h.2.2.2.2.1 (cryN h.2.2.2.1 (longN a.1 a.2.1) (beatN a.1 a.2.1 a.2.2.1 h.2.2.2.2.2.2.2.2.1) h.2.2.2.2.2.2.2.2.2.1 h.2.2.2.2.2.2.2.2.2.2.1) l) (B_warn h a l) = 1 := bsN_1 (sav_0 hp _ _ _) _
  refine fol_sav hp _ _ l (by omega) h1 _ _ (Nat.le_refl _) (Nat.and_self _) h3 (foN_1 hp (by omega) (Nat.and_self _) (Or.inl rfl))
theorem sq_w {fin : Nat → Bool} {pk : Nat → Option Nat} {i who : Nat} (h : ∀ j, j ≤ i → (∃ v, pk j = some v) ∧ fin j = false) (hw : pk i = some who) : sqN fin pk i = nI who := by
  have e := sq_in (fin := fin) (pk := pk) (i := i) (Or2 := fun j => (pk j).getD 0) (fun j hj => by
    obtain ⟨⟨v, hv⟩, hfj⟩ := h j hj
    exact ⟨by rw [hv]; rfl, hfj⟩)
  rw [e, hw]; rfl
theorem m_called (g : Gx) (n : Nat) (w : Wd) {t : Nat → Nat} {len : Nat} {h : Hs} {a : Ms} {kn : Nat} {k1 k2 : Ms} (hMR : MR w t len h a kn k1 k2) (hB : Bd h a) (hBk : Bk kn k1 k2) (l i : Int32) : CT g yX7_called cX7_called 7 (some .int) rm_X7_called n n w [.ref 59, .int l, .int i] (Rq (.int (V_called h a l i)) (fun w1 => MR w1 t len h a kn k1 k2 ∧ fr w w1 59 83)) := by
  obtain ⟨A, pl, hM, hRl⟩ := id hMR
  have hf : fr w w 59 83 := fr.rf
  obtain ⟨⟨hp1, hp8⟩, ⟨hb1, hb12, hv20, hmi9⟩, hK3, hM10, hS5, hM1, hX99, hR9, hwo5, hsh1, hbe9, hhd9, hhn12⟩ := id hB
  obtain ⟨hln, hkn2, htx, hRH, hRN, hRE, hk1r, hk2r⟩ := id hRl
  obtain ⟨rp, rX, rw_, rb, rv, rm_⟩ := id hRH
  refine CT.start [some (.ref 59), some (.int l), some (.int i), none, none, none, none] (by decide +kernel) rfl (Nat.le_of_ble_eq_true rfl) (fun x C hnm => ?_)
  refine ww_iload1 C dX7_called_0 ?_
  refine ww_i2l C dX7_called_1 ?_
  refine ww_lconst C (v := lN 0) dX7_called_2 (by decide) ?_
  refine ww_ldc2 C (v := 999) kc_X7_169 dX7_called_3 ?_
  refine ww_topl (show (999 : Int64) = lN 999 by decide) ?_
  refine ww_cS3v C (c_inR g n w _ _ _) kS_X7_88 ⟨Nat.le_of_ble_eq_true rfl, Nat.le_of_ble_eq_true rfl⟩ ⟨rfl, rfl⟩ ⟨Nat.le_of_ble_eq_true rfl, Nat.le_of_ble_eq_true rfl⟩ (Nat.le_of_ble_eq_true rfl) dX7_called_6 ?_
  refine ww_topi (show bz _ = bz (wb (nI 0) (nI 999) l) by rw [in_W (by decide) (by decide)]) ?_
  refine ww_ifeqB C (tgt := 24) dX7_called_9 (by decide) (fun c9 => ?_) (fun c9 => ?_)
  · skip
    refine ww_iconst C (v := -1) dX7_called_24 (by decide) ?_
    exact ww_riq C dX7_called_25 rfl ⟨Nat.le_of_ble_eq_true rfl, Nat.le_of_ble_eq_true rfl⟩ (by unfold V_called; rw [if_neg (fun e => by rw [c9] at e; cases e.1)]) ⟨hMR, fr.rf⟩
  · skip
    obtain ⟨q, hq0, hqm, rfl⟩ := wb_of (by decide) (by decide) c9
    have hcq : (nI q).toNatClampNeg = q := cl_nI (by omega)
    refine ww_iload2 C dX7_called_12 ?_
    refine ww_i2l C dX7_called_13 ?_
    refine ww_lconst C (v := lN 0) dX7_called_14 (by decide) ?_
    refine ww_ldc2 C (v := 7) kc_X7_174 dX7_called_15 ?_
    refine ww_topl (show (7 : Int64) = lN 7 by decide) ?_
    refine ww_cS3v C (c_inR g n w _ _ _) kS_X7_88 ⟨Nat.le_of_ble_eq_true rfl, Nat.le_of_ble_eq_true rfl⟩ ⟨rfl, rfl⟩ ⟨Nat.le_of_ble_eq_true rfl, Nat.le_of_ble_eq_true rfl⟩ (Nat.le_of_ble_eq_true rfl) dX7_called_18 ?_
    refine ww_topi (show bz _ = bz (wb (nI 0) (nI 7) i) by rw [in_W (by decide) (by decide)]) ?_
    refine ww_ifneB C (tgt := 26) dX7_called_21 (by decide) (fun c21 => ?_) (fun c21 => ?_)
    · skip
      obtain ⟨y, hy0, hy7, rfl⟩ := wb_of (by decide) (by decide) c21
      have hcy : (nI y).toNatClampNeg = y := cl_nI (by omega)
      refine ww_aload0 C dX7_called_26 ?_
      refine ww_iload1 C dX7_called_27 ?_
      refine ww_cV1vq C hM.1 rfl (m_layWarning g n w hM hRl hB hBk (l := q) hqm) kV_X7_171 ⟨Nat.le_of_ble_eq_true rfl, Nat.le_of_ble_eq_true rfl⟩ ⟨rfl, rfl⟩ ⟨Nat.le_of_ble_eq_true rfl, Nat.le_of_ble_eq_true rfl⟩ (Nat.le_of_ble_eq_true rfl) dX7_called_28 (fun w1 hw1 => ?_)
      obtain ⟨D, hM, hf1, hBo, hSy⟩ := hw1
      have hf := hf.tr hf1
      obtain ⟨hbw2, hbw0⟩ := bw_ok h a hp8 q
      have h256 := p256 hp8
      have hbw : B_warn h a q < 256 := by omega
      have hRl := hRl.sm hB hBk (Sm.all (fun b hb => hBo b (by omega) (by omega) (by omega) (by omega)))
      have hgo := dn_go hp8 hbw hbw2 hbw0
      refine ww_istore3 C dX7_called_31 (by decide) rfl ?_
      refine ww_iload2 C dX7_called_32 ?_
      refine ww_iload3 C dX7_called_33 ?_
      refine ww_cS1v C (c_bits g n w1 hbw) kS_X7_166 ⟨Nat.le_of_ble_eq_true rfl, Nat.le_of_ble_eq_true rfl⟩ ⟨rfl, rfl⟩ ⟨Nat.le_of_ble_eq_true rfl, Nat.le_of_ble_eq_true rfl⟩ (Nat.le_of_ble_eq_true rfl) dX7_called_34 ?_
      refine ww_icmpltN C (by have := bcN_le (B_warn h a q); omega) (tgt := 43) dX7_called_37 (by decide) (fun c37 => ?_) (fun c37 => ?_)
      · skip
        refine ww_aload0 C dX7_called_43 ?_
        refine ww_iload3 C dX7_called_44 ?_
        refine ww_iload1 C dX7_called_45 ?_
        refine ww_cV20q C hM.1 rfl (m_layFollows g n w1 hM hSy hB (s := B_warn h a q) (l := q) hbw hqm) kV_X7_176 ⟨Nat.le_of_ble_eq_true rfl, Nat.le_of_ble_eq_true rfl⟩ ⟨rfl, rfl⟩ ⟨Nat.le_of_ble_eq_true rfl, Nat.le_of_ble_eq_true rfl⟩ (Nat.le_of_ble_eq_true rfl) dX7_called_46 (fun w2 hw2 => ?_)
        obtain ⟨E, hM, hf2, hEo, hE21, hSy⟩ := hw2
        have hf := hf.tr hf2
        have hRl := hRl.sm hB hBk (Sm.all (fun b hb => hEo b (by omega)))
        have hl := hqm
        refine ww_iconst C (v := nI 0) dX7_called_49 (by decide) ?_
        refine ww_istore4 C dX7_called_50 (by decide) rfl ?_
        refine ww_iconst C (v := nI 0) dX7_called_52 (by decide) ?_
        refine ww_istore5 C dX7_called_53 (by decide) rfl ?_
        refine ww_iconst C (v := nI 0) dX7_called_55 (by decide) ?_
        refine ww_istore6 C dX7_called_56 (by decide) rfl ?_
        have lp58 : ∀ (m : Nat) (k who : Nat), k ≤ y + 1 → y + 1 < k + m → (1 ≤ k → (fun j => fstN (nsB (foN h.2.2.2.1 h.2.2.2.2.1 (cryN h.2.2.2.1 (longN a.1 a.2.1) (beatN a.1 a.2.1 a.2.2.1 h.2.2.2.2.2.2.2.2.1) h.2.2.2.2.2.2.2.2.2.1 h.2.2.2.2.2.2.2.2.2.2.1) q (B_warn h a q)) (cryN h.2.2.2.1 (longN a.1 a.2.1) (beatN a.1 a.2.1 a.2.2.1 h.2.2.2.2.2.2.2.2.1) h.2.2.2.2.2.2.2.2.2.1 h.2.2.2.2.2.2.2.2.2.2.1) h.2.2.2.2.1 (B_warn h a q) (dnN h.2.2.2.1 h.2.2.2.2.1 (cryN h.2.2.2.1 (longN a.1 a.2.1) (beatN a.1 a.2.1 a.2.2.1 h.2.2.2.2.2.2.2.2.1) h.2.2.2.2.2.2.2.2.2.1 h.2.2.2.2.2.2.2.2.2.2.1) q (B_warn h a q)  j) q) h.2.2.2.1) (k - 1) = some who) → WW g x 7 0 0 n w2 58 [some (.ref 59), some (.int (nI q)), some (.int (nI y)), some (.int (nI (B_warn h a q))), some (.int (nI (dnN h.2.2.2.1 h.2.2.2.2.1 (cryN h.2.2.2.1 (longN a.1 a.2.1) (beatN a.1 a.2.1 a.2.2.1 h.2.2.2.2.2.2.2.2.1) h.2.2.2.2.2.2.2.2.2.1 h.2.2.2.2.2.2.2.2.2.2.1) q (B_warn h a q)  k))), some (.int (nI who)), some (.int (nI k))] [] := by
          intro m
          induction m with
          | zero =>
            intro k who hk hm hwho
            exact absurd hm (by omega)
          | succ m ih58 =>
            intro k who hk hm hwho
            refine ww_iload6 C dX7_called_58 ?_
            refine ww_iload2 C dX7_called_60 ?_
            refine ww_icmpgtN C (by omega) (tgt := 139) dX7_called_61 (by decide) (fun c61 => ?_) (fun c61 => ?_)
            · skip
              refine ww_iload5 C dX7_called_139 ?_
              exact ww_riq C dX7_called_141 rfl ⟨Nat.le_of_ble_eq_true rfl, Nat.le_of_ble_eq_true rfl⟩ (by unfold V_called; rw [if_pos ⟨c9, c21⟩, hcq, hcy]; have ek : k = y + 1 := (by omega); subst ek; have hw9 := hwho (by omega); rw [Nat.add_sub_cancel] at hw9; exact Eq.symm (sq_w (fun j hj => ⟨by obtain ⟨i0, hpk, _⟩ := (hgo j (by omega)).2.2 (by omega); exact ⟨i0, hpk⟩, decide_eq_false (fun e => by have := (hgo j (by omega)).2.1; rw [e] at this; omega)⟩) hw9)) ⟨⟨E, pl, hM, hRl⟩, hf⟩
            · skip
              obtain ⟨i0, hpk, hpk2⟩ := (hgo k (by omega)).2.2 (by omega)
              obtain ⟨j1, j2, j3⟩ := fstN_spec hpk
              have hdk := sub_le (dnN_sub h.2.2.2.1 h.2.2.2.2.1 (cryN h.2.2.2.1 (longN a.1 a.2.1) (beatN a.1 a.2.1 a.2.2.1 h.2.2.2.2.2.2.2.2.1) h.2.2.2.2.2.2.2.2.2.1 h.2.2.2.2.2.2.2.2.2.2.1) q (B_warn h a q) k)
              refine ww_iconst C (v := nI 0) dX7_called_64 (by decide) ?_
              refine ww_istore5 C dX7_called_65 (by decide) rfl ?_
              have lp67 : ∀ (m : Nat) (i : Nat), i ≤ i0 → i0 < i + m → WW g x 7 0 0 n w2 67 [some (.ref 59), some (.int (nI q)), some (.int (nI y)), some (.int (nI (B_warn h a q))), some (.int (nI (dnN h.2.2.2.1 h.2.2.2.2.1 (cryN h.2.2.2.1 (longN a.1 a.2.1) (beatN a.1 a.2.1 a.2.2.1 h.2.2.2.2.2.2.2.2.1) h.2.2.2.2.2.2.2.2.2.1 h.2.2.2.2.2.2.2.2.2.2.1) q (B_warn h a q)  k))), some (.int (nI i)), some (.int (nI k))] [] := by
                intro m
                induction m with
                | zero =>
                  intro i hii hm
                  exact absurd hm (by omega)
                | succ m ih67 =>
                  intro i hii hm
                  refine ww_iload3 C dX7_called_67 ?_
                  refine ww_iload5 C dX7_called_68 ?_
                  refine ww_cS2v C (c_mhas g n w2 (s := B_warn h a q) (i := i) (by omega) (by omega)) kS_X7_153 ⟨Nat.le_of_ble_eq_true rfl, Nat.le_of_ble_eq_true rfl⟩ ⟨rfl, rfl⟩ ⟨Nat.le_of_ble_eq_true rfl, Nat.le_of_ble_eq_true rfl⟩ (Nat.le_of_ble_eq_true rfl) dX7_called_70 ?_
                  refine ww_ifeqB C (tgt := 118) dX7_called_73 (by decide) (fun c73 => ?_) (fun c73 => ?_)
                  · skip
                    refine ww_iincN5 C dX7_called_118 (by decide) rfl ?_
                    refine ww_goto C (tgt := 67) dX7_called_121 (by decide) ?_
                    exact ih67 (i + 1) (Nat.lt_of_le_of_ne hii (fun e => by have hno : nsB (foN h.2.2.2.1 h.2.2.2.2.1 (cryN h.2.2.2.1 (longN a.1 a.2.1) (beatN a.1 a.2.1 a.2.2.1 h.2.2.2.2.2.2.2.2.1) h.2.2.2.2.2.2.2.2.2.1 h.2.2.2.2.2.2.2.2.2.2.1) q (B_warn h a q)) (cryN h.2.2.2.1 (longN a.1 a.2.1) (beatN a.1 a.2.1 a.2.2.1 h.2.2.2.2.2.2.2.2.1) h.2.2.2.2.2.2.2.2.2.1 h.2.2.2.2.2.2.2.2.2.2.1) h.2.2.2.2.1 (B_warn h a q) (dnN h.2.2.2.1 h.2.2.2.2.1 (cryN h.2.2.2.1 (longN a.1 a.2.1) (beatN a.1 a.2.1 a.2.2.1 h.2.2.2.2.2.2.2.2.1) h.2.2.2.2.2.2.2.2.2.1 h.2.2.2.2.2.2.2.2.2.2.1) q (B_warn h a q)  k) q i = false := (by unfold nsB; rw [c73]; rfl); rw [e, j2] at hno; cases hno)) (by omega)
                  · skip
                    refine ww_iload4 C dX7_called_76 ?_
                    refine ww_iload5 C dX7_called_78 ?_
                    refine ww_cS2v C (c_mhas g n w2 (s := dnN h.2.2.2.1 h.2.2.2.2.1 (cryN h.2.2.2.1 (longN a.1 a.2.1) (beatN a.1 a.2.1 a.2.2.1 h.2.2.2.2.2.2.2.2.1) h.2.2.2.2.2.2.2.2.2.1 h.2.2.2.2.2.2.2.2.2.2.1) q (B_warn h a q) k) (i := i) (by omega) (by omega)) kS_X7_153 ⟨Nat.le_of_ble_eq_true rfl, Nat.le_of_ble_eq_true rfl⟩ ⟨rfl, rfl⟩ ⟨Nat.le_of_ble_eq_true rfl, Nat.le_of_ble_eq_true rfl⟩ (Nat.le_of_ble_eq_true rfl) dX7_called_80 ?_
                    refine ww_ifneB C (tgt := 118) dX7_called_83 (by decide) (fun c83 => ?_) (fun c83 => ?_)
                    · skip
                      refine ww_iincN5 C dX7_called_118 (by decide) rfl ?_
                      refine ww_goto C (tgt := 67) dX7_called_121 (by decide) ?_
                      exact ih67 (i + 1) (Nat.lt_of_le_of_ne hii (fun e => by have hno : nsB (foN h.2.2.2.1 h.2.2.2.2.1 (cryN h.2.2.2.1 (longN a.1 a.2.1) (beatN a.1 a.2.1 a.2.2.1 h.2.2.2.2.2.2.2.2.1) h.2.2.2.2.2.2.2.2.2.1 h.2.2.2.2.2.2.2.2.2.2.1) q (B_warn h a q)) (cryN h.2.2.2.1 (longN a.1 a.2.1) (beatN a.1 a.2.1 a.2.2.1 h.2.2.2.2.2.2.2.2.1) h.2.2.2.2.2.2.2.2.2.1 h.2.2.2.2.2.2.2.2.2.2.1) h.2.2.2.2.1 (B_warn h a q) (dnN h.2.2.2.1 h.2.2.2.2.1 (cryN h.2.2.2.1 (longN a.1 a.2.1) (beatN a.1 a.2.1 a.2.2.1 h.2.2.2.2.2.2.2.2.1) h.2.2.2.2.2.2.2.2.2.1 h.2.2.2.2.2.2.2.2.2.2.1) q (B_warn h a q)  k) q i = false := (by unfold nsB; rw [c83, Bool.not_true, Bool.false_and, Bool.and_false]); rw [e, j2] at hno; cases hno)) (by omega)
                    · skip
                      have hor2 := sub_le (or_sub (dnN_sub h.2.2.2.1 h.2.2.2.2.1 (cryN h.2.2.2.1 (longN a.1 a.2.1) (beatN a.1 a.2.1 a.2.2.1 h.2.2.2.2.2.2.2.2.1) h.2.2.2.2.2.2.2.2.2.1 h.2.2.2.2.2.2.2.2.2.2.1) q (B_warn h a q) k) c73)
                      refine ww_aload0 C dX7_called_86 ?_
                      refine ww_iload4 C dX7_called_87 ?_
                      refine ww_iconst C (v := nI 1) dX7_called_89 (by decide) ?_
                      refine ww_iload5 C dX7_called_90 ?_
                      refine ww_shl1N C (by omega) dX7_called_92 ?_
                      refine ww_iorN C dX7_called_93 ?_
                      refine ww_iload5 C dX7_called_94 ?_
                      refine ww_iload1 C dX7_called_96 ?_
                      refine ww_cV3v C hM.1 rfl (m_isInTime g n w2 hM (s := dnN h.2.2.2.1 h.2.2.2.2.1 (cryN h.2.2.2.1 (longN a.1 a.2.1) (beatN a.1 a.2.1 a.2.2.1 h.2.2.2.2.2.2.2.2.1) h.2.2.2.2.2.2.2.2.2.1 h.2.2.2.2.2.2.2.2.2.2.1) q (B_warn h a q) k ||| 2 ^ i) (i := i) (Pa := h.2.2.2.2.1) (Lo := longN a.1 a.2.1) (Be := beatN a.1 a.2.1 a.2.2.1 h.2.2.2.2.2.2.2.2.1) hSy.1 hp8 hSy.2.1 (And.intro hb1 hb12) hSy.2.2.1 hv20 (by omega) hSy.2.2.2.1 hSy.2.2.2.2.1 (hSy.2.2.2.2.2 i (by omega)).1 (hX99 _) (by omega) hl) kV_X7_162 ⟨Nat.le_of_ble_eq_true rfl, Nat.le_of_ble_eq_true rfl⟩ ⟨rfl, rfl⟩ ⟨Nat.le_of_ble_eq_true rfl, Nat.le_of_ble_eq_true rfl⟩ (Nat.le_of_ble_eq_true rfl) dX7_called_97 ?_
                      refine ww_ifeqB C (tgt := 118) dX7_called_100 (by decide) (fun c100 => ?_) (fun c100 => ?_)
                      · skip
                        refine ww_iincN5 C dX7_called_118 (by decide) rfl ?_
                        refine ww_goto C (tgt := 67) dX7_called_121 (by decide) ?_
                        exact ih67 (i + 1) (Nat.lt_of_le_of_ne hii (fun e => by have hno : nsB (foN h.2.2.2.1 h.2.2.2.2.1 (cryN h.2.2.2.1 (longN a.1 a.2.1) (beatN a.1 a.2.1 a.2.2.1 h.2.2.2.2.2.2.2.2.1) h.2.2.2.2.2.2.2.2.2.1 h.2.2.2.2.2.2.2.2.2.2.1) q (B_warn h a q)) (cryN h.2.2.2.1 (longN a.1 a.2.1) (beatN a.1 a.2.1 a.2.2.1 h.2.2.2.2.2.2.2.2.1) h.2.2.2.2.2.2.2.2.2.1 h.2.2.2.2.2.2.2.2.2.2.1) h.2.2.2.2.1 (B_warn h a q) (dnN h.2.2.2.1 h.2.2.2.2.1 (cryN h.2.2.2.1 (longN a.1 a.2.1) (beatN a.1 a.2.1 a.2.2.1 h.2.2.2.2.2.2.2.2.1) h.2.2.2.2.2.2.2.2.2.1 h.2.2.2.2.2.2.2.2.2.2.1) q (B_warn h a q)  k) q i = false := (by unfold nsB; rw [c100, Bool.and_false, Bool.and_false, Bool.and_false]); rw [e, j2] at hno; cases hno)) (by omega)
                      · skip
                        refine ww_aload0 C dX7_called_103 ?_
                        refine ww_getf C fl_X7_73 hM.1 rfl dX7_called_104 ?_
                        refine ww_iload4 C dX7_called_107 ?_
                        refine ww_iconst C (v := nI 1) dX7_called_109 (by decide) ?_
                        refine ww_iload5 C dX7_called_110 ?_
                        refine ww_shl1N C (by omega) dX7_called_112 ?_
                        refine ww_iorN C dX7_called_113 ?_
                        refine ww_ialdN C hM.a21 (by omega) dX7_called_114 (kk := ?_)
                        rw [hE21 _ hor2]
                        refine ww_ifneN C (by rcases foN_b hp8 (Pa := h.2.2.2.2.1) (cr := (cryN h.2.2.2.1 (longN a.1 a.2.1) (beatN a.1 a.2.1 a.2.2.1 h.2.2.2.2.2.2.2.2.1) h.2.2.2.2.2.2.2.2.2.1 h.2.2.2.2.2.2.2.2.2.2.1)) (l := q) hbw hor2 with e | e <;> rw [e] <;> decide) (tgt := 124) dX7_called_115 (by decide) (fun c115 => ?_) (fun c115 => ?_)
                        · skip
                          have eii : i = i0 := by
                            apply Classical.byContradiction
                            intro e
                            have hno := j3 i (by omega)
                            have hyes : nsB (foN h.2.2.2.1 h.2.2.2.2.1 (cryN h.2.2.2.1 (longN a.1 a.2.1) (beatN a.1 a.2.1 a.2.2.1 h.2.2.2.2.2.2.2.2.1) h.2.2.2.2.2.2.2.2.2.1 h.2.2.2.2.2.2.2.2.2.2.1) q (B_warn h a q)) (cryN h.2.2.2.1 (longN a.1 a.2.1) (beatN a.1 a.2.1 a.2.2.1 h.2.2.2.2.2.2.2.2.1) h.2.2.2.2.2.2.2.2.2.1 h.2.2.2.2.2.2.2.2.2.2.1) h.2.2.2.2.1 (B_warn h a q) (dnN h.2.2.2.1 h.2.2.2.2.1 (cryN h.2.2.2.1 (longN a.1 a.2.1) (beatN a.1 a.2.1 a.2.2.1 h.2.2.2.2.2.2.2.2.1) h.2.2.2.2.2.2.2.2.2.1 h.2.2.2.2.2.2.2.2.2.2.1) q (B_warn h a q)  k) q i = true := by
                              unfold nsB
                              rw [c73, c83, c100, decide_eq_true ((foN_b hp8 hbw hor2).resolve_left c115)]; rfl
                            rw [hyes] at hno
                            cases hno
                          subst eii
                          refine ww_iload4 C dX7_called_124 ?_
                          refine ww_iconst C (v := nI 1) dX7_called_126 (by decide) ?_
                          refine ww_iload5 C dX7_called_127 ?_
                          refine ww_shl1N C (by omega) dX7_called_129 ?_
                          refine ww_iorN C dX7_called_130 ?_
                          rw [← hpk2]
                          refine ww_istore4 C dX7_called_131 (by decide) rfl ?_
                          refine ww_iincN6 C dX7_called_133 (by decide) rfl ?_
                          refine ww_goto C (tgt := 58) dX7_called_136 (by decide) ?_
                          exact ih58 (k + 1) i (by omega) (by omega) (fun _ => hpk)
                        · skip
                          refine ww_iincN5 C dX7_called_118 (by decide) rfl ?_
                          refine ww_goto C (tgt := 67) dX7_called_121 (by decide) ?_
                          exact ih67 (i + 1) (Nat.lt_of_le_of_ne hii (fun e => by have hno : nsB (foN h.2.2.2.1 h.2.2.2.2.1 (cryN h.2.2.2.1 (longN a.1 a.2.1) (beatN a.1 a.2.1 a.2.2.1 h.2.2.2.2.2.2.2.2.1) h.2.2.2.2.2.2.2.2.2.1 h.2.2.2.2.2.2.2.2.2.2.1) q (B_warn h a q)) (cryN h.2.2.2.1 (longN a.1 a.2.1) (beatN a.1 a.2.1 a.2.2.1 h.2.2.2.2.2.2.2.2.1) h.2.2.2.2.2.2.2.2.2.1 h.2.2.2.2.2.2.2.2.2.2.1) h.2.2.2.2.1 (B_warn h a q) (dnN h.2.2.2.1 h.2.2.2.2.1 (cryN h.2.2.2.1 (longN a.1 a.2.1) (beatN a.1 a.2.1 a.2.2.1 h.2.2.2.2.2.2.2.2.1) h.2.2.2.2.2.2.2.2.2.1 h.2.2.2.2.2.2.2.2.2.2.1) q (B_warn h a q)  k) q i = false := (by unfold nsB; rw [decide_eq_false (fun e => by rw [c115] at e; cases e), Bool.false_and, Bool.and_false, Bool.and_false]); rw [e, j2] at hno; cases hno)) (by omega)
              exact lp67 (i0 + 1) 0 (by omega) (by omega)
        exact lp58 (y + 2) 0 0 (by omega) (by omega) (fun e => absurd e (by omega))
      · skip
        refine ww_bipush C (v := -4) dX7_called_40 (by decide) ?_
        exact ww_riq C dX7_called_42 rfl ⟨Nat.le_of_ble_eq_true rfl, Nat.le_of_ble_eq_true rfl⟩ (by unfold V_called; rw [if_pos ⟨c9, c21⟩, hcq, hcy]; exact (sq_out (od := bcN (B_warn h a q)) c37 (Or.inl (decide_eq_true (sub_eq hbw (dnN_sub _ _ _ _ _ _) (hgo _ (Nat.le_refl _)).2.1)))).symm) ⟨⟨D, pl, hM, hRl⟩, hf⟩
    · skip
      refine ww_iconst C (v := -1) dX7_called_24 (by decide) ?_
      exact ww_riq C dX7_called_25 rfl ⟨Nat.le_of_ble_eq_true rfl, Nat.le_of_ble_eq_true rfl⟩ (by unfold V_called; rw [if_neg (fun e => by rw [c21] at e; cases e.2)]) ⟨hMR, fr.rf⟩
