/-- the syllable that keeps calls apart, of the first n, and the sum -/
def apN (f : Nat → Option Nat) : Nat → Option (Nat × Nat)
  | 0 => none
  | s + 1 => match f s with
    | none => apN f s
    | some v => match apN f s with
      | none => some (s, v)
      | some r => if v < r.2 then some (s, v) else some r
theorem apN_n {f : Nat → Option Nat} {s : Nat} (h : f s = none) : apN f (s + 1) = apN f s := by
  conv => lhs; unfold apN
  rw [h]
theorem apN_1 {f : Nat → Option Nat} {s v : Nat} (h : f s = some v) (h2 : apN f s = none) : apN f (s + 1) = some (s, v) := by
  conv => lhs; unfold apN
  rw [h, h2]
theorem apN_2 {f : Nat → Option Nat} {s v : Nat} {r : Nat × Nat} (h : f s = some v) (h2 : apN f s = some r) : apN f (s + 1) = if v < r.2 then some (s, v) else some r := by
  conv => lhs; unfold apN
  rw [h, h2]
theorem apN_le {f : Nat → Option Nat} {B : Nat} (h : ∀ s v, f s = some v → v ≤ B) : ∀ n r, apN f n = some r → r.1 < n ∧ r.2 ≤ B
  | 0, r, e => by cases e
  | s + 1, r, e => by
    cases h1 : f s with
    | none =>
      rw [apN_n h1] at e
      have := apN_le h s r e
      exact ⟨by omega, this.2⟩
    | some v =>
      have hv := h s v h1
      cases h2 : apN f s with
      | none => rw [apN_1 h1 h2] at e; cases e; exact ⟨by show s < s + 1; omega, hv⟩
      | some r0 =>
        have := apN_le h s r0 h2
        rw [apN_2 h1 h2] at e
        split at e
        · cases e; exact ⟨by show s < s + 1; omega, hv⟩
        · cases e; exact ⟨by omega, this.2⟩
theorem lM_gM {M : Nat → Nat} {i : Nat} (h1 : 1 ≤ M i) (h10 : M i < 10) : lM (gM M i) i = M := by
  unfold gM lM
  rw [if_pos h10, va_upd_self, if_pos (by omega), up_up]
  funext j
  unfold va_up
  split
  · rename_i e; rw [e]; omega
  · rfl
/-- ALL SHORT with s behind the name of i -/
def apS (K M S : Nat → Nat) (p q i s : Nat) : Option Nat := soN (shortN K (gM M i) (gS M S i s) p q) (tb q) p
def V_apart (h : Hs) (a : Ms) (i s what : Int32) : Int32 := if stB h.2.2.2.1 s = true ∧ ofB s.toNatClampNeg i = true ∧ wb (nI 0) (nI 1) what = true then (if a.2.1 i.toNatClampNeg < 10 then (if what = nI 0 then oI ((apN (apS a.1 a.2.1 a.2.2.1 h.2.2.2.1 s.toNatClampNeg i.toNatClampNeg) 6).map Prod.fst) else oI ((apN (apS a.1 a.2.1 a.2.2.1 h.2.2.2.1 s.toNatClampNeg i.toNatClampNeg) 6).map Prod.snd)) else -3) else -1
theorem gM_le {M : Nat → Nat} {i : Nat} (h : ∀ j, M j ≤ 10) : ∀ j, gM M i j ≤ 10 := by
  intro j
  unfold gM
  split
  · exact up_le h (by omega) j
  · exact h j
theorem d_apart (g : Gx) (n : Nat) (w : Wd) {t : Nat → Nat} {len : Nat} {h : Hs} {a : Ms} {kn : Nat} {k1 k2 : Ms} (hR : CR w t len h a kn k1 k2) (i s what : Int32) (hM1 : ∀ j, j < h.2.2.2.1 → 1 ≤ a.2.1 j) : CT g yX6_apart cX6_apart 8 (some .int) rm_X6_apart n n w [.ref 0, .int i, .int s, .int what] (Rq (.int (V_apart h a i s what)) (fun w1 => CR w1 t len h a kn k1 k2 ∧ fr w w1 0 59)) := by
  obtain ⟨hi, dr, pl, nm, h', p1, p2, hC, hq1, hq2⟩ := id hR
  have hp8 : h.2.2.2.1 ≤ 8 := hC.2.2.2.2.2.1.2.1.2.2.2.2.1
  have hhd := hC.1
  have hlen := hC.2.2.1.2.2.2.1
  obtain ⟨K9, M9, S9, p9, hTr⟩ := hC.2.2.2.2.2.2.2.2.2.1
  have h256 := p256 hp8
  have hM10 : ∀ i, a.2.1 i ≤ 10 := hC.2.2.2.2.2.1.2.1.2.2.2.2.2.2.1
  refine CT.start [some (.ref 0), some (.int i), some (.int s), some (.int what), none, none, none, none] (by decide +kernel) rfl (Nat.le_of_ble_eq_true rfl) (fun x C hnm => ?_)
  refine ww_aload0 C dX6_apart_0 ?_
  refine ww_iload2 C dX6_apart_1 ?_
  refine ww_cV1v C hC.2.1 rfl (c_isSet g n w hC _) kV_X6_138 ⟨Nat.le_of_ble_eq_true rfl, Nat.le_of_ble_eq_true rfl⟩ ⟨rfl, rfl⟩ ⟨Nat.le_of_ble_eq_true rfl, Nat.le_of_ble_eq_true rfl⟩ (Nat.le_of_ble_eq_true rfl) dX6_apart_2 ?_
  refine ww_ifeqB C (tgt := 25) dX6_apart_5 (by decide) (fun c5 => ?_) (fun c5 => ?_)
  · skip
    refine ww_iconst C (v := -1) dX6_apart_25 (by decide) ?_
    exact ww_riq C dX6_apart_26 rfl ⟨Nat.le_of_ble_eq_true rfl, Nat.le_of_ble_eq_true rfl⟩ (by unfold V_apart; rw [if_neg (fun e => by rw [c5] at e; cases e.1)]) ⟨hR, fr.rf⟩
  · skip
    obtain ⟨q, hq0, hqm, rfl⟩ := stB_of c5
    have hcq : (nI q).toNatClampNeg = q := cl_nI (by omega)
    refine ww_iload1 C dX6_apart_8 ?_
    refine ww_iload2 C dX6_apart_9 ?_
    refine ww_cS2v C (c_isOfR g n w i (s := q) (by omega)) kS_X6_169 ⟨Nat.le_of_ble_eq_true rfl, Nat.le_of_ble_eq_true rfl⟩ ⟨rfl, rfl⟩ ⟨Nat.le_of_ble_eq_true rfl, Nat.le_of_ble_eq_true rfl⟩ (Nat.le_of_ble_eq_true rfl) dX6_apart_10 ?_
    refine ww_ifeqB C (tgt := 25) dX6_apart_13 (by decide) (fun c13 => ?_) (fun c13 => ?_)
    · skip
      refine ww_iconst C (v := -1) dX6_apart_25 (by decide) ?_
      exact ww_riq C dX6_apart_26 rfl ⟨Nat.le_of_ble_eq_true rfl, Nat.le_of_ble_eq_true rfl⟩ (by unfold V_apart; rw [hcq, if_neg (fun e => by have e2 := e.2.1; unfold ofB at e2; rw [c13] at e2; cases e2)]) ⟨hR, fr.rf⟩
    · skip
      obtain ⟨j, hj, htb, rfl, hcj⟩ := ofB_of c13 hqm hp8
      have hapb : ∀ s v, (apS a.1 a.2.1 a.2.2.1 h.2.2.2.1 q j) s = some v → v ≤ 160 := fun s v e => Nat.le_trans (soN_le (c := 20) (fun i v h => (shortN_le (fun i => gM_le hM10 i) h).2) _ _ e) (by omega)
      refine ww_iload3 C dX6_apart_16 ?_
      refine ww_iconst C (v := nI 0) dX6_apart_17 (by decide) ?_
      refine ww_iconst C (v := nI 1) dX6_apart_18 (by decide) ?_
      refine ww_cS3v C (c_within g n w _ _ _) kS_X6_73 ⟨Nat.le_of_ble_eq_true rfl, Nat.le_of_ble_eq_true rfl⟩ ⟨rfl, rfl⟩ ⟨Nat.le_of_ble_eq_true rfl, Nat.le_of_ble_eq_true rfl⟩ (Nat.le_of_ble_eq_true rfl) dX6_apart_19 ?_
      refine ww_ifneB C (tgt := 27) dX6_apart_22 (by decide) (fun c22 => ?_) (fun c22 => ?_)
      · skip
        obtain ⟨y, hy0, hym, rfl⟩ := wb_of (by decide) (by decide) c22
        have hcy : (nI y).toNatClampNeg = y := cl_nI (by omega)
        refine ww_aload0 C dX6_apart_27 ?_
        refine ww_getf C fl_X6_29 hC.2.1 rfl dX6_apart_28 ?_
        refine ww_getf C fl_X6_65 hC.2.2.2.2.2.1.1 rfl dX6_apart_31 ?_
        refine ww_iload1 C dX6_apart_34 ?_
        refine ww_cV1v C hC.2.2.2.2.2.1.2.1.1 rfl (c_sizeOf g n w hC.2.2.2.2.2.1.2.1 hj) kV_X6_117 ⟨Nat.le_of_ble_eq_true rfl, Nat.le_of_ble_eq_true rfl⟩ ⟨rfl, rfl⟩ ⟨Nat.le_of_ble_eq_true rfl, Nat.le_of_ble_eq_true rfl⟩ (Nat.le_of_ble_eq_true rfl) dX6_apart_35 ?_
        refine ww_bipush C (v := nI 10) dX6_apart_38 (by decide) ?_
        refine ww_icmpltN C (by have := hM10 j; omega) (tgt := 46) dX6_apart_40 (by decide) (fun c40 => ?_) (fun c40 => ?_)
        · skip
          refine ww_bipush C (v := -4) dX6_apart_46 (by decide) ?_
          refine ww_istore4 C dX6_apart_48 (by decide) rfl ?_
          refine ww_bipush C (v := -4) dX6_apart_50 (by decide) ?_
          refine ww_istore5 C dX6_apart_52 (by decide) rfl ?_
          refine ww_aload0 C dX6_apart_54 ?_
          refine ww_getf C fl_X6_53 hC.2.1 rfl dX6_apart_55 ?_
          refine ww_aload0 C dX6_apart_58 ?_
          refine ww_getf C fl_X6_29 hC.2.1 rfl dX6_apart_59 ?_
          refine ww_getf C fl_X6_65 hC.2.2.2.2.2.1.1 rfl dX6_apart_62 ?_
          obtain ⟨u1, hTr1, hf1, hc1⟩ := c_copyFrom g n w hTr hC.2.2.2.2.2.1.2.1 (by omega)
          refine ww_cV10 C hTr.1 rfl (hc1) kV_X6_69 ⟨Nat.le_of_ble_eq_true rfl, Nat.le_of_ble_eq_true rfl⟩ ⟨rfl, rfl⟩ ⟨Nat.le_of_ble_eq_true rfl, Nat.le_of_ble_eq_true rfl⟩ (Nat.le_of_ble_eq_true rfl) dX6_apart_65 ?_
          have hC := hC.tr ⟨_, _, _, _, hTr1⟩ hf1
          have hTr := hTr1
          refine ww_iconst C (v := nI 0) dX6_apart_68 (by decide) ?_
          refine ww_istore6 C dX6_apart_69 (by decide) rfl ?_
          have lp71 : ∀ (m : Nat) (s9 : Nat) (o : Option (Nat × Nat)) (T : Nat → Nat) (u : Wd) (z7 : Option Value), s9 ≤ 6 → 6 < s9 + m → o = apN (apS a.1 a.2.1 a.2.2.1 h.2.2.2.1 q j) s9 → (∀ s, va_up T (10 * j + a.2.1 j) s = va_up a.2.2.1 (10 * j + a.2.1 j) s) → NR u 55 a.1 a.2.1 T h.2.2.2.1 → CX u hi dr t len pl nm h h' a kn k1 k2 p1 p2 → fr w u 55 59 → WW g x 8 0 0 n u 71 [some (.ref 0), some (.int (nI j)), some (.int (nI q)), some (.int (nI y)), some (.int (oI (o.map Prod.fst))), some (.int (oI (o.map Prod.snd))), some (.int (nI s9)), z7] [] := by
            intro m
            induction m with
            | zero =>
              intro s9 o T u z7 hs9 hm ho hT hTr hC hff
              exact absurd hm (by omega)
            | succ m ih71 =>
              intro s9 o T u z7 hs9 hm ho hT hTr hC hff
              refine ww_iload6 C dX6_apart_71 ?_
              refine ww_bipush C (v := nI 6) dX6_apart_73 (by decide) ?_
              refine ww_icmpgeN C (by omega) (tgt := 142) dX6_apart_75 (by decide) (fun c75 => ?_) (fun c75 => ?_)
              · skip
                have e : s9 = 6 := by omega
                subst e
                refine ww_iload3 C dX6_apart_142 ?_
                refine ww_ifneN C (by omega) (tgt := 151) dX6_apart_143 (by decide) (fun c143 => ?_) (fun c143 => ?_)
                · skip
                  refine ww_iload5 C dX6_apart_151 ?_
                  exact ww_riq C dX6_apart_153 rfl ⟨Nat.le_of_ble_eq_true rfl, Nat.le_of_ble_eq_true rfl⟩ (by unfold V_apart; rw [hcq, if_pos ⟨c5, c13, c22⟩, hcj, if_pos c40, if_neg (fun e => c143 ((nI_eq (by omega) (by decide)).mp e)), ho]) ⟨⟨_, _, _, _, _, _, _, hC, hq1, hq2⟩, hff.wide (by omega) (by omega)⟩
                · skip
                  refine ww_iload4 C dX6_apart_146 ?_
                  refine ww_goto C (tgt := 153) dX6_apart_148 (by decide) ?_
                  exact ww_riq C dX6_apart_153 rfl ⟨Nat.le_of_ble_eq_true rfl, Nat.le_of_ble_eq_true rfl⟩ (by unfold V_apart; rw [hcq, if_pos ⟨c5, c13, c22⟩, hcj, if_pos c40, if_pos (by rw [c143]), ho]) ⟨⟨_, _, _, _, _, _, _, hC, hq1, hq2⟩, hff.wide (by omega) (by omega)⟩
              · skip
                refine ww_aload0 C dX6_apart_78 ?_
                refine ww_getf C fl_X6_53 hC.2.1 rfl dX6_apart_79 ?_
                refine ww_iload1 C dX6_apart_82 ?_
                refine ww_iload6 C dX6_apart_83 ?_
                obtain ⟨u2, hTr2, hf2, hc2⟩ := c_gain g n u hTr (i := j) (s := s9) hj (by omega)
                refine ww_cV2v C hTr.1 rfl (hc2) kV_X6_179 ⟨Nat.le_of_ble_eq_true rfl, Nat.le_of_ble_eq_true rfl⟩ ⟨rfl, rfl⟩ ⟨Nat.le_of_ble_eq_true rfl, Nat.le_of_ble_eq_true rfl⟩ (Nat.le_of_ble_eq_true rfl) dX6_apart_85 ?_
                have hC := hC.tr ⟨_, _, _, _, hTr2⟩ hf2
                have hTr := hTr2
                have eS : gS a.2.1 T j s9 = gS a.2.1 a.2.2.1 j s9 := by unfold gS; rw [if_pos c40, if_pos c40]; exact hT s9
                rw [eS] at hTr
                refine ww_pop C dX6_apart_88 rfl ?_
                refine ww_aload0 C dX6_apart_89 ?_
                refine ww_getf C fl_X6_53 hC.2.1 rfl dX6_apart_90 ?_
                refine ww_iload2 C dX6_apart_93 ?_
                refine ww_cV1v C hTr.1 rfl (c_sumOfShortest g n u2 hTr (by omega)) kV_X6_176 ⟨Nat.le_of_ble_eq_true rfl, Nat.le_of_ble_eq_true rfl⟩ ⟨rfl, rfl⟩ ⟨Nat.le_of_ble_eq_true rfl, Nat.le_of_ble_eq_true rfl⟩ (Nat.le_of_ble_eq_true rfl) dX6_apart_94 ?_
                have esum : soN (shortN a.1 (gM a.2.1 j) (gS a.2.1 a.2.2.1 j s9) h.2.2.2.1 q) (tb q) h.2.2.2.1 = (apS a.1 a.2.1 a.2.2.1 h.2.2.2.1 q j) s9 := rfl
                rw [esum]
                refine ww_istore7 C dX6_apart_97 (by decide) rfl ?_
                refine ww_aload0 C dX6_apart_99 ?_
                refine ww_getf C fl_X6_53 hC.2.1 rfl dX6_apart_100 ?_
                refine ww_iload1 C dX6_apart_103 ?_
                obtain ⟨u3, hTr3, hf3, hc3⟩ := c_lose g n u2 hTr (i := j) hj
                refine ww_cV10 C hTr.1 rfl (hc3) kV_X6_182 ⟨Nat.le_of_ble_eq_true rfl, Nat.le_of_ble_eq_true rfl⟩ ⟨rfl, rfl⟩ ⟨Nat.le_of_ble_eq_true rfl, Nat.le_of_ble_eq_true rfl⟩ (Nat.le_of_ble_eq_true rfl) dX6_apart_104 ?_
                have hC := hC.tr ⟨_, _, _, _, hTr3⟩ hf3
                rw [lM_gM (hM1 j hj) c40] at hTr3
                have hff : fr w u3 55 59 := (hff.tr hf2).tr hf3
                have hT3 : ∀ s, va_up (gS a.2.1 a.2.2.1 j s9) (10 * j + a.2.1 j) s = va_up a.2.2.1 (10 * j + a.2.1 j) s := fun s => by unfold gS; rw [if_pos c40, up_up]
                refine ww_iload7 C dX6_apart_107 ?_
                rcases qs : (apS a.1 a.2.1 a.2.2.1 h.2.2.2.1 q j) s9 with _ | v9
                · skip
                  refine ww_bipush C (v := -4) dX6_apart_109 (by decide) ?_
                  refine ww_icmpeq C (tgt := 136) dX6_apart_111 (by decide) (fun c111 => ?_) (fun c111 => ?_)
                  · skip
                    refine ww_iincN6 C dX6_apart_136 (by decide) rfl ?_
                    refine ww_goto C (tgt := 71) dX6_apart_139 (by decide) ?_
                    exact ih71 (s9 + 1) o (gS a.2.1 a.2.2.1 j s9) _ _ (by omega) (by omega) (by rw [apN_n qs]; exact ho) hT3 hTr3 hC hff
                  · skip
                    exact absurd rfl c111
                · skip
                  have hv9 := hapb s9 v9 qs
                  refine ww_topi (show oI (some v9) = nI v9 from rfl) ?_
                  refine ww_bipush C (v := -4) dX6_apart_109 (by decide) ?_
                  refine ww_icmpeq C (tgt := 136) dX6_apart_111 (by decide) (fun c111 => ?_) (fun c111 => ?_)
                  · skip
                    exact absurd c111 (oI_ne (by omega))
                  · skip
                    refine ww_iload5 C dX6_apart_114 ?_
                    rcases qo : o with _ | r9
                    · skip
                      refine ww_bipush C (v := -4) dX6_apart_116 (by decide) ?_
                      refine ww_icmpeq C (tgt := 128) dX6_apart_118 (by decide) (fun c118 => ?_) (fun c118 => ?_)
                      · skip
                        refine ww_iload6 C dX6_apart_128 ?_
                        refine ww_istore4 C dX6_apart_130 (by decide) rfl ?_
                        refine ww_iload7 C dX6_apart_132 ?_
                        refine ww_istore5 C dX6_apart_134 (by decide) rfl ?_
                        refine ww_iincN6 C dX6_apart_136 (by decide) rfl ?_
                        refine ww_goto C (tgt := 71) dX6_apart_139 (by decide) ?_
                        exact ih71 (s9 + 1) (some (s9, v9)) (gS a.2.1 a.2.2.1 j s9) _ _ (by omega) (by omega) (apN_1 qs (ho.symm.trans qo)).symm hT3 hTr3 hC hff
                      · skip
                        exact absurd rfl c118
                    · skip
                      have hr9 := apN_le hapb s9 r9 (ho.symm.trans qo)
                      refine ww_topi (show oI ((some r9).map Prod.snd) = nI r9.2 from rfl) ?_
                      refine ww_bipush C (v := -4) dX6_apart_116 (by decide) ?_
                      refine ww_icmpeq C (tgt := 128) dX6_apart_118 (by decide) (fun c118 => ?_) (fun c118 => ?_)
                      · skip
                        exact absurd c118 (oI_ne (by omega))
                      · skip
                        refine ww_iload7 C dX6_apart_121 ?_
                        refine ww_topi (show oI (some v9) = nI v9 from rfl) ?_
                        refine ww_iload5 C dX6_apart_123 ?_
                        refine ww_topi (show oI ((some r9).map Prod.snd) = nI r9.2 from rfl) ?_
                        refine ww_icmpgeN C (by omega) (tgt := 136) dX6_apart_125 (by decide) (fun c125 => ?_) (fun c125 => ?_)
                        · skip
                          refine ww_iincN6 C dX6_apart_136 (by decide) rfl ?_
                          refine ww_goto C (tgt := 71) dX6_apart_139 (by decide) ?_
                          exact ih71 (s9 + 1) (some r9) (gS a.2.1 a.2.2.1 j s9) _ _ (by omega) (by omega) (by rw [apN_2 qs (ho.symm.trans qo), if_neg (by omega)]) hT3 hTr3 hC hff
                        · skip
                          refine ww_iload6 C dX6_apart_128 ?_
                          refine ww_istore4 C dX6_apart_130 (by decide) rfl ?_
                          refine ww_iload7 C dX6_apart_132 ?_
                          refine ww_istore5 C dX6_apart_134 (by decide) rfl ?_
                          refine ww_iincN6 C dX6_apart_136 (by decide) rfl ?_
                          refine ww_goto C (tgt := 71) dX6_apart_139 (by decide) ?_
                          exact ih71 (s9 + 1) (some (s9, v9)) (gS a.2.1 a.2.2.1 j s9) _ _ (by omega) (by omega) (by rw [apN_2 qs (ho.symm.trans qo), if_pos c125]) hT3 hTr3 hC hff
          exact lp71 (7) 0 none _ _ _ (by omega) (by omega) rfl (fun _ => rfl) hTr hC hf1
        · skip
          refine ww_bipush C (v := -3) dX6_apart_43 (by decide) ?_
          exact ww_riq C dX6_apart_45 rfl ⟨Nat.le_of_ble_eq_true rfl, Nat.le_of_ble_eq_true rfl⟩ (by unfold V_apart; rw [hcq, if_pos ⟨c5, c13, c22⟩, hcj, if_neg (by omega)]) ⟨hR, fr.rf⟩
      · skip
        refine ww_iconst C (v := -1) dX6_apart_25 (by decide) ?_
        exact ww_riq C dX6_apart_26 rfl ⟨Nat.le_of_ble_eq_true rfl, Nat.le_of_ble_eq_true rfl⟩ (by unfold V_apart; rw [if_neg (fun e => by rw [c22] at e; cases e.2.2)]) ⟨hR, fr.rf⟩
/-- the same hill, as far as one can see -/
def Ag (h g : Hs) : Prop := h.2.2.2.1 = g.2.2.2.1 ∧ (∀ i, i < h.2.2.2.1 → h.1 i = g.1 i ∧ h.2.1 i = g.2.1 i ∧ h.2.2.2.2.1 i = g.2.2.2.2.1 i ∧ h.2.2.2.2.2.1 i = g.2.2.2.2.2.1 i ∧ ∀ q, q < h.2.1 i → h.2.2.1 (10 * i + q) = g.2.2.1 (10 * i + q)) ∧ (∀ d, d < 6 → h.2.2.2.2.2.2.1 d = g.2.2.2.2.2.2.1 d ∧ h.2.2.2.2.2.2.2.1 d = g.2.2.2.2.2.2.2.1 d ∧ h.2.2.2.2.2.2.2.2.1 d = g.2.2.2.2.2.2.2.2.1 d) ∧ h.2.2.2.2.2.2.2.2.2 = g.2.2.2.2.2.2.2.2.2 ∧ ∀ i, i < h.2.2.2.1 → h.2.1 i ≤ 10
def AgO (a b : Option (Nat × Hs)) : Prop := match a, b with
  | none, none => True
  | some r, some s => r.1 = s.1 ∧ Ag r.2 s.2
  | _, _ => False
theorem Ag_emp (h g : Hs) : Ag (emp h) (emp g) := ⟨rfl, fun i hi => absurd hi (Nat.not_lt_zero i), fun d hd => ⟨by show filN (fun d => d) h.2.2.2.2.2.2.1 6 d = filN (fun d => d) g.2.2.2.2.2.2.1 6 d; rw [filN_lt hd, filN_lt hd], by show filN (fun _ => 0) h.2.2.2.2.2.2.2.1 6 d = filN (fun _ => 0) g.2.2.2.2.2.2.2.1 6 d; rw [filN_lt hd, filN_lt hd], by show filN (fun _ => 1) h.2.2.2.2.2.2.2.2.1 6 d = filN (fun _ => 1) g.2.2.2.2.2.2.2.2.1 6 d; rw [filN_lt hd, filN_lt hd]⟩, rfl, fun i hi => absurd hi (Nat.not_lt_zero i)⟩
theorem up_c {f g : Nat → Nat} {k v i : Nat} (h : ¬ i = k → f i = g i) : va_up f k v i = va_up g k v i := by
  unfold va_up
  split
  · rfl
  · rename_i e; exact h e
theorem namR_le {t : Nat → Nat} {len pl : Nat} {r : Nat × Nat} (h : namR t len pl = some r) : 1 ≤ r.1 ∧ r.1 ≤ 6 ∧ r.2 ≤ len := by
  have hp := preN_le (fun q => dgB t len 53 (pl + q)) 6
  unfold namR at h
  split at h
  · cases h
  · split at h
    · cases h
      rename_i c1 c2
      exact ⟨by show 1 ≤ preN _ 6; omega, hp, by show _ + 1 ≤ len; omega⟩
    · cases h
theorem itP_ag {t : Nat → Nat} {len pl : Nat} {h g : Hs} (e : Ag h g) : AgO (itP t len pl h) (itP t len pl g) := by
  obtain ⟨e1, e2, e3, e4, e5⟩ := e
  unfold itP
  rcases numR t len pl 44 0 3 with _ | r1
  · trivial
  · dsimp only
    rcases q2 : namR t len r1.2 with _ | r2
    · trivial
    · dsimp only
      have hz := namR_le q2
      rcases numR t len r2.2 44 0 99 with _ | r3
      · trivial
      · dsimp only
        rcases numR t len r3.2 59 0 9 with _ | r4
        · trivial
        · dsimp only
          rw [← e1]
          by_cases c : h.2.2.2.1 < 8
          · rw [if_pos c, if_pos c]
            refine ⟨rfl, rfl, fun i hi => ?_, e3, e4, fun i hi => ?_⟩
            · have hi : i < h.2.2.2.1 + 1 := hi
              refine ⟨up_c (fun n => (e2 i (by omega)).1), up_c (fun n => (e2 i (by omega)).2.1), up_c (fun n => (e2 i (by omega)).2.2.1), up_c (fun n => (e2 i (by omega)).2.2.2.1), fun q hq => ?_⟩
              dsimp only
              unfold enS
              by_cases c2 : 10 * h.2.2.2.1 ≤ 10 * i + q ∧ 10 * i + q < 10 * h.2.2.2.1 + r2.1
              · rw [if_pos c2, if_pos c2]
              · rw [if_neg c2, if_neg c2]
                have hq : q < va_up h.2.1 h.2.2.2.1 r2.1 i := hq
                by_cases c3 : i = h.2.2.2.1
                · exfalso
                  rw [c3, va_upd_self] at hq
                  omega
                · rw [va_upd_ne _ _ c3] at hq
                  exact (e2 i (by omega)).2.2.2.2 q hq
            · have hi : i < h.2.2.2.1 + 1 := hi
              show va_up h.2.1 h.2.2.2.1 r2.1 i ≤ 10
              by_cases c3 : i = h.2.2.2.1
              · rw [c3, va_upd_self]; omega
              · rw [va_upd_ne _ _ c3]; exact e5 i (by omega)
          · rw [if_neg c, if_neg c]; trivial
theorem itL_ag {t : Nat → Nat} {len pl : Nat} {h g : Hs} (e : Ag h g) : AgO (itL t len pl h) (itL t len pl g) := by
  obtain ⟨e1, e2, e3, e4, e5⟩ := e
  unfold itL
  rcases numR t len pl 44 0 5 with _ | r1
  · trivial
  · dsimp only
    rcases numR t len r1.2 59 0 5 with _ | r2
    · trivial
    · dsimp only
      exact ⟨rfl, e1, e2, fun d hd => ⟨up_c (fun _ => (e3 d hd).1), (e3 d hd).2.1, (e3 d hd).2.2⟩, e4, e5⟩
theorem itK_ag {t : Nat → Nat} {len pl : Nat} {h g : Hs} (e : Ag h g) : AgO (itK t len pl h) (itK t len pl g) := by
  obtain ⟨e1, e2, e3, e4, e5⟩ := e
  unfold itK
  rcases numR t len pl 59 0 5 with _ | r1
  · trivial
  · dsimp only
    exact ⟨rfl, e1, e2, fun d hd => ⟨(e3 d hd).1, up_c (fun _ => (e3 d hd).2.1), (e3 d hd).2.2⟩, e4, e5⟩
theorem itS_ag {t : Nat → Nat} {len pl : Nat} {h g : Hs} (e : Ag h g) : AgO (itS t len pl h) (itS t len pl g) := by
  obtain ⟨e1, e2, e3, e4, e5⟩ := e
  unfold itS
  rcases numR t len pl 44 0 5 with _ | r1
  · trivial
  · dsimp only
    rcases numR t len r1.2 59 1 9 with _ | r2
    · trivial
    · dsimp only
      exact ⟨rfl, e1, e2, fun d hd => ⟨(e3 d hd).1, (e3 d hd).2.1, up_c (fun _ => (e3 d hd).2.2)⟩, e4, e5⟩
theorem itB_ag {t : Nat → Nat} {len pl : Nat} {h g : Hs} (e : Ag h g) : AgO (itB t len pl h) (itB t len pl g) := by
  obtain ⟨e1, e2, e3, e4, e5⟩ := e
  unfold itB
  rcases numR t len pl 44 1 12 with _ | r1
  · trivial
  · dsimp only
    rcases numR t len r1.2 59 0 20 with _ | r2
    · trivial
    · dsimp only
      exact ⟨rfl, e1, e2, e3, by rw [e4], e5⟩
theorem itM_ag {t : Nat → Nat} {len pl : Nat} {h g : Hs} (e : Ag h g) : AgO (itM t len pl h) (itM t len pl g) := by
  obtain ⟨e1, e2, e3, e4, e5⟩ := e
  unfold itM
  rcases numR t len pl 59 0 9 with _ | r1
  · trivial
  · dsimp only
    exact ⟨rfl, e1, e2, e3, by rw [e4], e5⟩
theorem item_ag {t : Nat → Nat} {len pl : Nat} {h g : Hs} (e : Ag h g) : AgO (itemR t len pl h) (itemR t len pl g) := by
  unfold itemR
  repeat' split
  · exact itP_ag e
  · exact itL_ag e
  · exact itK_ag e
  · exact itS_ag e
  · exact itB_ag e
  · exact itM_ag e
  · trivial
theorem rdN_ag {t : Nat → Nat} {len : Nat} : ∀ (f pl : Nat) {h g : Hs}, Ag h g → (rdN t len f pl h).1 = (rdN t len f pl g).1 ∧ Ag (rdN t len f pl h).2 (rdN t len f pl g).2
  | 0, pl, h, g, e => ⟨rfl, e⟩
  | f + 1, pl, h, g, e => by
    by_cases c : pl < len
    · have a := item_ag (t := t) (len := len) (pl := pl) e
      rcases q1 : itemR t len pl h with _ | r
      · rcases q2 : itemR t len pl g with _ | s
        · rw [rdN_n c q1, rdN_n c q2]; exact ⟨rfl, e⟩
        · rw [q1, q2] at a; exact a.elim
      · rcases q2 : itemR t len pl g with _ | s
        · rw [q1, q2] at a; exact a.elim
        · rw [q1, q2] at a
          rw [rdN_s c q1, rdN_s c q2, a.1]
          exact rdN_ag f s.1 a.2
    · rw [rdN_x c, rdN_x c]; exact ⟨rfl, e⟩
def H0 : Hs := emp (fun _ => 0, fun _ => 0, fun _ => 0, 0, fun _ => 0, fun _ => 0, fun _ => 0, fun _ => 0, fun _ => 0, 0, 0, 0)
/-- what a text tells: the fault, or none, and the hill -/
def RD (t : Nat → Nat) (len : Nat) : Option Nat × Hs := rdN t len 400 0 H0
