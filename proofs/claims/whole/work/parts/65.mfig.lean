theorem btN_lt {t : Nat → Nat} {len q : Nat} (ht : ∀ j, t j < 256) : btN t len q < 256 := by
  unfold btN
  split
  · exact ht _
  · omega
theorem in_dg {t : Nat → Nat} {len q h : Nat} (ht : ∀ j, t j < 256) (hh : h < 256) : inB (lN (btN t len q)) (lN 48) (lN h) = dgB t len h q := by
  have hb := btN_lt (len := len) (q := q) ht
  rw [in_N (by omega) (by decide) (by omega)]
  unfold dgB
  apply decide_eq_decide.mpr
  unfold btN
  split <;> omega
theorem bt_dg {t : Nat → Nat} {len q h : Nat} (d : dgB t len h q = true) : btN t len q = t q := by
  have d := of_decide_eq_true d
  unfold btN
  rw [if_pos d.1]
theorem ten_le {f a : Nat} (h : f ≤ a) : 10 ^ f ≤ 10 ^ a := Nat.pow_le_pow_right (by decide) h
theorem fig_s {t : Nat → Nat} {len P sk f : Nat} (ha : ∀ q, q < f → dgB t len 57 (P + q) = true) (h1 : 1 ≤ f) (h3 : f ≤ 3) (hsk : sk = 44 ∨ sk = 59) (hb : btN t len (P + f) = sk) : numR t len P sk 0 999 = some (vlN t P f, P + f + 1) := by
  have hlt : P + f < len ∧ t (P + f) = sk := by
    unfold btN at hb
    split at hb
    · rename_i c; exact ⟨c, hb⟩
    · omega
  have hd : dgB t len 57 (P + f) = false := decide_eq_false (by omega)
  have hk : preN (fun q => dgB t len 57 (P + q)) 3 = f := preN_eq ha (by
    by_cases c : f = 3
    · exact Or.inl c
    · exact Or.inr ⟨by omega, hd⟩)
  have hv := vlN_le f ha
  have hv4 : 10 ^ f ≤ 1000 := ten_le h3
  unfold numR
  rw [hk, if_neg (by omega), if_pos hlt, if_pos ⟨Nat.zero_le _, by omega⟩]
theorem fig_n {t : Nat → Nat} {len P sk f : Nat} (ha : ∀ q, q < f → dgB t len 57 (P + q) = true) (h4 : f ≤ 4) (hst : f = 4 ∨ dgB t len 57 (P + f) = false) (hsk : sk = 44 ∨ sk = 59) (hno : ¬ (1 ≤ f ∧ f ≤ 3) ∨ ¬ btN t len (P + f) = sk) : numR t len P sk 0 999 = none := by
  by_cases c3 : f = 4
  · have hk : preN (fun q => dgB t len 57 (P + q)) 3 = 3 := preN_eq (fun j hj => ha j (by omega)) (Or.inl rfl)
    have hd := of_decide_eq_true (ha 3 (by omega))
    unfold numR
    rw [hk, if_neg (by decide), if_neg (by omega)]
  · have hd : dgB t len 57 (P + f) = false := hst.resolve_left c3
    have hk : preN (fun q => dgB t len 57 (P + q)) 3 = f := preN_eq ha (by
      by_cases c : f = 3
      · exact Or.inl c
      · exact Or.inr ⟨by omega, hd⟩)
    unfold numR
    rw [hk]
    by_cases c0 : f = 0
    · rw [if_pos c0]
    · rw [if_neg c0, if_neg]
      rintro ⟨a, b⟩
      rcases hno with h | h
      · omega
      · apply h
        unfold btN
        rw [if_pos a]
        exact b
/-- c numbers, one or two, sep behind the last: are they there -/
def fgB (t : Nat → Nat) (len pl c sep : Nat) : Bool := if c = 1 then (numR t len pl sep 0 999).isSome else (match numR t len pl 44 0 999 with
  | none => false
  | some r => (numR t len r.2 sep 0 999).isSome)
/-- the first k of them stand in T, P is the place behind -/
def fgI (t : Nat → Nat) (len pl sep c k : Nat) (T : Nat → Nat) (P : Nat) : Prop := (k = 0 → P = pl) ∧ (k = 1 → numR t len pl (if 1 < c then 44 else sep) 0 999 = some (T 0, P)) ∧ (k = 2 → ∃ P1, numR t len pl 44 0 999 = some (T 0, P1) ∧ numR t len P1 sep 0 999 = some (T 1, P))
section FIG
variable {t T : Nat → Nat} {len pl sep c k P : Nat}
theorem fgI.no (h : fgI t len pl sep c k T P) (hc : c = 1 ∨ c = 2) (hk : k < c) (hn : numR t len P (if k + 1 < c then 44 else sep) 0 999 = none) : fgB t len pl c sep = false := by
  obtain ⟨h0, h1, h2⟩ := h
  rcases hc with rfl | rfl
  · have e : k = 0 := by omega
    subst e
    rw [h0 rfl] at hn
    unfold fgB
    rw [if_pos rfl]
    have hn : numR t len pl sep 0 999 = none := hn
    rw [hn]; rfl
  · unfold fgB
    rw [if_neg (by decide)]
    rcases (show k = 0 ∨ k = 1 by omega) with rfl | rfl
    · rw [h0 rfl] at hn
      have hn : numR t len pl 44 0 999 = none := hn
      rw [hn]
    · have h1 : numR t len pl 44 0 999 = some (T 0, P) := h1 rfl
      have hn : numR t len P sep 0 999 = none := hn
      rw [h1]
      show (numR t len P sep 0 999).isSome = false
      rw [hn]; rfl
theorem fgI.step (h : fgI t len pl sep c k T P) (hc : c = 1 ∨ c = 2) (hk : k < c) {v P2 : Nat} {T2 : Nat → Nat} (hT : T2 = va_up T k v) (hn : numR t len P (if k + 1 < c then 44 else sep) 0 999 = some (v, P2)) : fgI t len pl sep c (k + 1) T2 P2 := by
  obtain ⟨h0, h1, h2⟩ := h
  rcases (show k = 0 ∨ (k = 1 ∧ c = 2) by omega) with rfl | ⟨rfl, rfl⟩
  · refine ⟨fun e => absurd e (by decide), fun _ => ?_, fun e => absurd e (by decide)⟩
    rw [hT, va_upd_self, ← h0 rfl]
    exact hn
  · refine ⟨fun e => absurd e (by decide), fun e => absurd e (by decide), fun _ => ⟨P, ?_, ?_⟩⟩
    · rw [hT, va_upd_ne _ _ (by decide)]
      exact h1 rfl
    · rw [hT, va_upd_self]
      exact hn
theorem fgI.yes (h : fgI t len pl sep c c T P) (hc : c = 1 ∨ c = 2) : fgB t len pl c sep = true := by
  obtain ⟨h0, h1, h2⟩ := h
  unfold fgB
  rcases hc with rfl | rfl
  · have h1 : numR t len pl sep 0 999 = some (T 0, P) := h1 rfl
    rw [if_pos rfl, h1]; rfl
  · obtain ⟨P1, a, b⟩ := h2 rfl
    rw [if_neg (by decide), a]
    show (numR t len P1 sep 0 999).isSome = true
    rw [b]; rfl
theorem fgI.one (h : fgI t len pl sep 1 1 T P) : numR t len pl sep 0 999 = some (T 0, P) := h.2.1 rfl
theorem fgI.two (h : fgI t len pl sep 2 2 T P) : ∃ P1, numR t len pl 44 0 999 = some (T 0, P1) ∧ numR t len P1 sep 0 999 = some (T 1, P) := h.2.2 rfl
end FIG
theorem m_figures (g : Gx) (n : Nat) (w : Wd) {A : Nat → Nat → Nat} {len pl km : Nat} (hM : MO w A len pl km) {t : Nat → Nat} (ht : ∀ j, j < len → A 0 j = t j) (ht256 : ∀ j, t j < 256) (hl4 : len ≤ 400) (hpl : pl ≤ 400) {c sep : Nat} (hc12 : c = 1 ∨ c = 2) (hsep : sep = 44 ∨ sep = 59) : CT g yX7_figures cX7_figures 6 (some .boolean) rm_X7_figures n n w [.ref 59, .int (nI c), .int (nI sep)] (Rq (.int (bz (fgB t len pl c sep))) (fun w1 => ∃ B P, MO w1 B len P km ∧ fr w w1 59 83 ∧ (∀ b, ¬ b = 16 → B b = A b) ∧ P ≤ 400 ∧ (fgB t len pl c sep = true → fgI t len pl sep c c (B 16) P))) := by
  have hf : fr w w 59 83 := fr.rf
  refine CT.start [some (.ref 59), some (.int (nI c)), some (.int (nI sep)), none, none, none] (by decide +kernel) rfl (Nat.le_of_ble_eq_true rfl) (fun x C hnm => ?_)
  refine ww_iconst C (v := nI 0) dX7_figures_0 (by decide) ?_
  refine ww_istore3 C dX7_figures_1 (by decide) rfl ?_
  have lp2 : ∀ (m : Nat) (k P : Nat) (B : Nat → Nat → Nat) (u : Wd) (z4 z5 : Option Value), k ≤ c → c < k + m → P ≤ 400 → fgI t len pl sep c k (B 16) P → (∀ b, ¬ b = 16 → B b = A b) → MO u B len P km → fr w u 59 83 → WW g x 6 0 0 n u 2 [some (.ref 59), some (.int (nI c)), some (.int (nI sep)), some (.int (nI k)), z4, z5] [] := by
    intro m
    induction m with
    | zero =>
      intro k P B u z4 z5 hk0 hm hP hI hBo hM hf
      exact absurd hm (by omega)
    | succ m ih2 =>
      intro k P B u z4 z5 hk0 hm hP hI hBo hM hf
      refine ww_iload3 C dX7_figures_2 ?_
      refine ww_iload1 C dX7_figures_3 ?_
      refine ww_icmpgeN C (by omega) (tgt := 138) dX7_figures_4 (by decide) (fun c4 => ?_) (fun c4 => ?_)
      · skip
        refine ww_iconst C (v := nI 1) dX7_figures_138 (by decide) ?_
        exact ww_rzq C dX7_figures_139 rfl ⟨Nat.le_of_ble_eq_true rfl, Nat.le_of_ble_eq_true rfl⟩ (by have ek : k = c := (by omega); subst ek; rw [hI.yes hc12]; rfl) ⟨B, P, hM, hf, hBo, hP, fun _ => by have ek : k = c := (by omega); subst ek; exact hI⟩
      · skip
        refine ww_iconst C (v := nI 0) dX7_figures_7 (by decide) ?_
        refine ww_istore4 C dX7_figures_8 (by decide) rfl ?_
        refine ww_iconst C (v := nI 0) dX7_figures_10 (by decide) ?_
        refine ww_istore5 C dX7_figures_11 (by decide) rfl ?_
        have lp13 : ∀ (m : Nat) (f : Nat) (u : Wd), f ≤ 4 → 4 < f + m → (∀ q, q < f → dgB t len 57 (P + q) = true) → P + f ≤ 400 → MO u B len (P + f) km → fr w u 59 83 → WW g x 6 0 0 n u 13 [some (.ref 59), some (.int (nI c)), some (.int (nI sep)), some (.int (nI k)), some (.int (nI f)), some (.int (nI (vlN t P f)))] [] := by
          intro m
          induction m with
          | zero =>
            intro f u hf0 hm ha hpf hM hf
            exact absurd hm (by omega)
          | succ m ih13 =>
            intro f u hf0 hm ha hpf hM hf
            refine ww_aload0 C dX7_figures_13 ?_
            refine ww_aload0 C dX7_figures_14 ?_
            refine ww_getf C fl_X7_98 hM.1 rfl dX7_figures_15 ?_
            refine ww_cV1v C hM.1 rfl (c_byteAt g n u hM (t := t) (fun j hj => (congrFun (hBo 0 (by decide)) j).trans (ht j hj)) hl4 (k := P + f) (by omega)) kV_X7_101 ⟨Nat.le_of_ble_eq_true rfl, Nat.le_of_ble_eq_true rfl⟩ ⟨rfl, rfl⟩ ⟨Nat.le_of_ble_eq_true rfl, Nat.le_of_ble_eq_true rfl⟩ (Nat.le_of_ble_eq_true rfl) dX7_figures_18 ?_
            refine ww_i2lN C (by have := btN_lt (len := len) (q := P + f) ht256; omega) dX7_figures_21 ?_
            refine ww_ldc2 C (v := 48) kc_X7_105 dX7_figures_22 ?_
            refine ww_topl (show (48 : Int64) = lN 48 by decide) ?_
            refine ww_ldc2 C (v := 57) kc_X7_107 dX7_figures_25 ?_
            refine ww_topl (show (57 : Int64) = lN 57 by decide) ?_
            refine ww_cS3v C (c_inR g n u _ _ _) kS_X7_88 ⟨Nat.le_of_ble_eq_true rfl, Nat.le_of_ble_eq_true rfl⟩ ⟨rfl, rfl⟩ ⟨Nat.le_of_ble_eq_true rfl, Nat.le_of_ble_eq_true rfl⟩ (Nat.le_of_ble_eq_true rfl) dX7_figures_28 ?_
            refine ww_topi (show bz _ = bz (dgB t len 57 (P + f)) by rw [in_dg ht256 (by decide)]) ?_
            refine ww_ifeqB C (tgt := 75) dX7_figures_31 (by decide) (fun c31 => ?_) (fun c31 => ?_)
            · skip
              refine ww_iload4 C dX7_figures_75 ?_
              refine ww_i2lN C (by omega) dX7_figures_77 ?_
              refine ww_lconst C (v := lN 1) dX7_figures_78 (by decide) ?_
              refine ww_ldc2 C (v := 3) kc_X7_109 dX7_figures_79 ?_
              refine ww_topl (show (3 : Int64) = lN 3 by decide) ?_
              refine ww_cS3v C (c_inR g n u _ _ _) kS_X7_88 ⟨Nat.le_of_ble_eq_true rfl, Nat.le_of_ble_eq_true rfl⟩ ⟨rfl, rfl⟩ ⟨Nat.le_of_ble_eq_true rfl, Nat.le_of_ble_eq_true rfl⟩ (Nat.le_of_ble_eq_true rfl) dX7_figures_82 ?_
              refine ww_topi (show bz _ = bz (decide (1 ≤ f ∧ f ≤ 3)) by rw [in_N (by omega) (by decide) (by decide)]) ?_
              refine ww_ifeqB C (tgt := 112) dX7_figures_85 (by decide) (fun c85 => ?_) (fun c85 => ?_)
              · skip
                have hnn : numR t len P (if k + 1 < c then 44 else sep) 0 999 = none := fig_n ha (by omega) (Or.inr c31) (by split; exact Or.inl rfl; exact hsep) (Or.inl (of_decide_eq_false c85))
                have hfb := hI.no hc12 (by omega) hnn
                refine ww_iconst C (v := nI 0) dX7_figures_112 (by decide) ?_
                exact ww_rzq C dX7_figures_113 rfl ⟨Nat.le_of_ble_eq_true rfl, Nat.le_of_ble_eq_true rfl⟩ (by rw [hfb]; rfl) ⟨B, _, hM, hf, hBo, hpf, fun e => by rw [hfb] at e; cases e⟩
              · skip
                refine ww_aload0 C dX7_figures_88 ?_
                refine ww_aload0 C dX7_figures_89 ?_
                refine ww_getf C fl_X7_98 hM.1 rfl dX7_figures_90 ?_
                refine ww_cV1v C hM.1 rfl (c_byteAt g n u hM (t := t) (fun j hj => (congrFun (hBo 0 (by decide)) j).trans (ht j hj)) hl4 (k := P + f) (by omega)) kV_X7_101 ⟨Nat.le_of_ble_eq_true rfl, Nat.le_of_ble_eq_true rfl⟩ ⟨rfl, rfl⟩ ⟨Nat.le_of_ble_eq_true rfl, Nat.le_of_ble_eq_true rfl⟩ (Nat.le_of_ble_eq_true rfl) dX7_figures_93 ?_
                refine ww_iload3 C dX7_figures_96 ?_
                refine ww_iload1 C dX7_figures_97 ?_
                refine ww_iconst C (v := nI 1) dX7_figures_98 (by decide) ?_
                refine ww_isubN C (by omega) dX7_figures_99 ?_
                refine ww_icmpgeN C (by omega) (tgt := 108) dX7_figures_100 (by decide) (fun c100 => ?_) (fun c100 => ?_)
                · skip
                  refine ww_iload2 C dX7_figures_108 ?_
                  refine ww_icmpeqN C (by have := btN_lt (len := len) (q := P + f) ht256; omega) (tgt := 114) dX7_figures_109 (by decide) (fun c109 => ?_) (fun c109 => ?_)
                  · skip
                    have hsk : (if k + 1 < c then 44 else sep) = sep := if_neg (by omega)
                    have hrg := of_decide_eq_true c85
                    have hlt : P + f < len := by
                      have h9 : btN t len (P + f) = _ := c109
                      unfold btN at h9
                      split at h9
                      · assumption
                      · omega
                    have hns : numR t len P (if k + 1 < c then 44 else sep) 0 999 = some (vlN t P f, P + f + 1) := by
                      rw [hsk]
                      exact fig_s ha hrg.1 hrg.2 (by omega) c109
                    refine ww_aload0 C dX7_figures_114 ?_
                    refine ww_getf C fl_X7_58 hM.1 rfl dX7_figures_115 ?_
                    refine ww_iload3 C dX7_figures_118 ?_
                    refine ww_iload5 C dX7_figures_119 ?_
                    refine ww_iastN C hM.a16 (by omega) dX7_figures_121 (kk := fun w1 hw1 => ?_)
                    have hf : fr w w1 59 83 := hf.tr (fr.up hw1 (by omega) (by omega))
                    obtain ⟨A1, hM, e1, o1⟩ := hM.st 16 (by decide) hw1
                    refine ww_aload0 C dX7_figures_122 ?_
                    refine ww_dup C dX7_figures_123 rfl ?_
                    refine ww_getf C fl_X7_98 hM.1 rfl dX7_figures_124 ?_
                    refine ww_iconst C (v := nI 1) dX7_figures_127 (by decide) ?_
                    refine ww_iaddN C dX7_figures_128 ?_
                    refine ww_putI C fl_X7_98 hM.1 (Nat.le_of_ble_eq_true rfl) rfl dX7_figures_129 (fun w2 hw2 => ?_)
                    have hf : fr w w2 59 83 := hf.tr (fr.up hw2 (by omega) (by omega))
                    have hM := hM.setO (len2 := len) (km2 := km) (pl2 := P + f + 1) hw2
                    refine ww_iincN3 C dX7_figures_132 (by decide) rfl ?_
                    refine ww_goto C (tgt := 2) dX7_figures_135 (by decide) ?_
                    exact ih2 (k + 1) (P + f + 1) A1 _ _ _ (by omega) (by omega) (by omega) (hI.step hc12 (by omega) e1 hns) (fun b hb => (o1 b hb).trans (hBo b hb)) hM hf
                  · skip
                    have hsk : (if k + 1 < c then 44 else sep) = sep := if_neg (by omega)
                    have hnn : numR t len P (if k + 1 < c then 44 else sep) 0 999 = none := by
                      rw [hsk]
                      exact fig_n ha (by omega) (Or.inr c31) (by omega) (Or.inr c109)
                    have hfb := hI.no hc12 (by omega) hnn
                    refine ww_iconst C (v := nI 0) dX7_figures_112 (by decide) ?_
                    exact ww_rzq C dX7_figures_113 rfl ⟨Nat.le_of_ble_eq_true rfl, Nat.le_of_ble_eq_true rfl⟩ (by rw [hfb]; rfl) ⟨B, _, hM, hf, hBo, hpf, fun e => by rw [hfb] at e; cases e⟩
                · skip
                  refine ww_bipush C (v := nI 44) dX7_figures_103 (by decide) ?_
                  refine ww_goto C (tgt := 109) dX7_figures_105 (by decide) ?_
                  refine ww_icmpeqN C (by have := btN_lt (len := len) (q := P + f) ht256; omega) (tgt := 114) dX7_figures_109 (by decide) (fun c109 => ?_) (fun c109 => ?_)
                  · skip
                    have hsk : (if k + 1 < c then 44 else sep) = 44 := if_pos (by omega)
                    have hrg := of_decide_eq_true c85
                    have hlt : P + f < len := by
                      have h9 : btN t len (P + f) = _ := c109
                      unfold btN at h9
                      split at h9
                      · assumption
                      · omega
                    have hns : numR t len P (if k + 1 < c then 44 else sep) 0 999 = some (vlN t P f, P + f + 1) := by
                      rw [hsk]
                      exact fig_s ha hrg.1 hrg.2 (by omega) c109
                    refine ww_aload0 C dX7_figures_114 ?_
                    refine ww_getf C fl_X7_58 hM.1 rfl dX7_figures_115 ?_
                    refine ww_iload3 C dX7_figures_118 ?_
                    refine ww_iload5 C dX7_figures_119 ?_
                    refine ww_iastN C hM.a16 (by omega) dX7_figures_121 (kk := fun w3 hw3 => ?_)
                    have hf : fr w w3 59 83 := hf.tr (fr.up hw3 (by omega) (by omega))
                    obtain ⟨A3, hM, e3, o3⟩ := hM.st 16 (by decide) hw3
                    refine ww_aload0 C dX7_figures_122 ?_
                    refine ww_dup C dX7_figures_123 rfl ?_
                    refine ww_getf C fl_X7_98 hM.1 rfl dX7_figures_124 ?_
                    refine ww_iconst C (v := nI 1) dX7_figures_127 (by decide) ?_
                    refine ww_iaddN C dX7_figures_128 ?_
                    refine ww_putI C fl_X7_98 hM.1 (Nat.le_of_ble_eq_true rfl) rfl dX7_figures_129 (fun w4 hw4 => ?_)
                    have hf : fr w w4 59 83 := hf.tr (fr.up hw4 (by omega) (by omega))
                    have hM := hM.setO (len2 := len) (km2 := km) (pl2 := P + f + 1) hw4
                    refine ww_iincN3 C dX7_figures_132 (by decide) rfl ?_
                    refine ww_goto C (tgt := 2) dX7_figures_135 (by decide) ?_
                    exact ih2 (k + 1) (P + f + 1) A3 _ _ _ (by omega) (by omega) (by omega) (hI.step hc12 (by omega) e3 hns) (fun b hb => (o3 b hb).trans (hBo b hb)) hM hf
                  · skip
                    have hsk : (if k + 1 < c then 44 else sep) = 44 := if_pos (by omega)
                    have hnn : numR t len P (if k + 1 < c then 44 else sep) 0 999 = none := by
                      rw [hsk]
                      exact fig_n ha (by omega) (Or.inr c31) (by omega) (Or.inr c109)
                    have hfb := hI.no hc12 (by omega) hnn
                    refine ww_iconst C (v := nI 0) dX7_figures_112 (by decide) ?_
                    exact ww_rzq C dX7_figures_113 rfl ⟨Nat.le_of_ble_eq_true rfl, Nat.le_of_ble_eq_true rfl⟩ (by rw [hfb]; rfl) ⟨B, _, hM, hf, hBo, hpf, fun e => by rw [hfb] at e; cases e⟩
            · skip
              refine ww_iload4 C dX7_figures_34 ?_
              refine ww_iconst C (v := nI 4) dX7_figures_36 (by decide) ?_
              refine ww_icmpgeN C (by omega) (tgt := 75) dX7_figures_37 (by decide) (fun c37 => ?_) (fun c37 => ?_)
              · skip
                refine ww_iload4 C dX7_figures_75 ?_
                refine ww_i2lN C (by omega) dX7_figures_77 ?_
                refine ww_lconst C (v := lN 1) dX7_figures_78 (by decide) ?_
                refine ww_ldc2 C (v := 3) kc_X7_109 dX7_figures_79 ?_
                refine ww_topl (show (3 : Int64) = lN 3 by decide) ?_
                refine ww_cS3v C (c_inR g n u _ _ _) kS_X7_88 ⟨Nat.le_of_ble_eq_true rfl, Nat.le_of_ble_eq_true rfl⟩ ⟨rfl, rfl⟩ ⟨Nat.le_of_ble_eq_true rfl, Nat.le_of_ble_eq_true rfl⟩ (Nat.le_of_ble_eq_true rfl) dX7_figures_82 ?_
                refine ww_topi (show bz _ = bz (decide (1 ≤ f ∧ f ≤ 3)) by rw [in_N (by omega) (by decide) (by decide)]) ?_
                refine ww_ifeqB C (tgt := 112) dX7_figures_85 (by decide) (fun c85 => ?_) (fun c85 => ?_)
                · skip
                  have hnn : numR t len P (if k + 1 < c then 44 else sep) 0 999 = none := fig_n ha (by omega) (Or.inl (by omega)) (by split; exact Or.inl rfl; exact hsep) (Or.inl (of_decide_eq_false c85))
                  have hfb := hI.no hc12 (by omega) hnn
                  refine ww_iconst C (v := nI 0) dX7_figures_112 (by decide) ?_
                  exact ww_rzq C dX7_figures_113 rfl ⟨Nat.le_of_ble_eq_true rfl, Nat.le_of_ble_eq_true rfl⟩ (by rw [hfb]; rfl) ⟨B, _, hM, hf, hBo, hpf, fun e => by rw [hfb] at e; cases e⟩
                · skip
                  refine ww_aload0 C dX7_figures_88 ?_
                  refine ww_aload0 C dX7_figures_89 ?_
                  refine ww_getf C fl_X7_98 hM.1 rfl dX7_figures_90 ?_
                  refine ww_cV1v C hM.1 rfl (c_byteAt g n u hM (t := t) (fun j hj => (congrFun (hBo 0 (by decide)) j).trans (ht j hj)) hl4 (k := P + f) (by omega)) kV_X7_101 ⟨Nat.le_of_ble_eq_true rfl, Nat.le_of_ble_eq_true rfl⟩ ⟨rfl, rfl⟩ ⟨Nat.le_of_ble_eq_true rfl, Nat.le_of_ble_eq_true rfl⟩ (Nat.le_of_ble_eq_true rfl) dX7_figures_93 ?_
                  refine ww_iload3 C dX7_figures_96 ?_
                  refine ww_iload1 C dX7_figures_97 ?_
                  refine ww_iconst C (v := nI 1) dX7_figures_98 (by decide) ?_
                  refine ww_isubN C (by omega) dX7_figures_99 ?_
                  refine ww_icmpgeN C (by omega) (tgt := 108) dX7_figures_100 (by decide) (fun c100 => ?_) (fun c100 => ?_)
                  · skip
                    refine ww_iload2 C dX7_figures_108 ?_
                    refine ww_icmpeqN C (by have := btN_lt (len := len) (q := P + f) ht256; omega) (tgt := 114) dX7_figures_109 (by decide) (fun c109 => ?_) (fun c109 => ?_)
                    · skip
                      have hsk : (if k + 1 < c then 44 else sep) = sep := if_neg (by omega)
                      have hrg := of_decide_eq_true c85
                      have hlt : P + f < len := by
                        have h9 : btN t len (P + f) = _ := c109
                        unfold btN at h9
                        split at h9
                        · assumption
                        · omega
                      have hns : numR t len P (if k + 1 < c then 44 else sep) 0 999 = some (vlN t P f, P + f + 1) := by
                        rw [hsk]
                        exact fig_s ha hrg.1 hrg.2 (by omega) c109
                      refine ww_aload0 C dX7_figures_114 ?_
                      refine ww_getf C fl_X7_58 hM.1 rfl dX7_figures_115 ?_
                      refine ww_iload3 C dX7_figures_118 ?_
                      refine ww_iload5 C dX7_figures_119 ?_
                      refine ww_iastN C hM.a16 (by omega) dX7_figures_121 (kk := fun w5 hw5 => ?_)
                      have hf : fr w w5 59 83 := hf.tr (fr.up hw5 (by omega) (by omega))
                      obtain ⟨A5, hM, e5, o5⟩ := hM.st 16 (by decide) hw5
                      refine ww_aload0 C dX7_figures_122 ?_
                      refine ww_dup C dX7_figures_123 rfl ?_
                      refine ww_getf C fl_X7_98 hM.1 rfl dX7_figures_124 ?_
                      refine ww_iconst C (v := nI 1) dX7_figures_127 (by decide) ?_
                      refine ww_iaddN C dX7_figures_128 ?_
                      refine ww_putI C fl_X7_98 hM.1 (Nat.le_of_ble_eq_true rfl) rfl dX7_figures_129 (fun w6 hw6 => ?_)
                      have hf : fr w w6 59 83 := hf.tr (fr.up hw6 (by omega) (by omega))
                      have hM := hM.setO (len2 := len) (km2 := km) (pl2 := P + f + 1) hw6
                      refine ww_iincN3 C dX7_figures_132 (by decide) rfl ?_
                      refine ww_goto C (tgt := 2) dX7_figures_135 (by decide) ?_
                      exact ih2 (k + 1) (P + f + 1) A5 _ _ _ (by omega) (by omega) (by omega) (hI.step hc12 (by omega) e5 hns) (fun b hb => (o5 b hb).trans (hBo b hb)) hM hf
                    · skip
                      have hsk : (if k + 1 < c then 44 else sep) = sep := if_neg (by omega)
                      have hnn : numR t len P (if k + 1 < c then 44 else sep) 0 999 = none := by
                        rw [hsk]
                        exact fig_n ha (by omega) (Or.inl (by omega)) (by omega) (Or.inr c109)
                      have hfb := hI.no hc12 (by omega) hnn
                      refine ww_iconst C (v := nI 0) dX7_figures_112 (by decide) ?_
                      exact ww_rzq C dX7_figures_113 rfl ⟨Nat.le_of_ble_eq_true rfl, Nat.le_of_ble_eq_true rfl⟩ (by rw [hfb]; rfl) ⟨B, _, hM, hf, hBo, hpf, fun e => by rw [hfb] at e; cases e⟩
                  · skip
                    refine ww_bipush C (v := nI 44) dX7_figures_103 (by decide) ?_
                    refine ww_goto C (tgt := 109) dX7_figures_105 (by decide) ?_
                    refine ww_icmpeqN C (by have := btN_lt (len := len) (q := P + f) ht256; omega) (tgt := 114) dX7_figures_109 (by decide) (fun c109 => ?_) (fun c109 => ?_)
                    · skip
                      have hsk : (if k + 1 < c then 44 else sep) = 44 := if_pos (by omega)
                      have hrg := of_decide_eq_true c85
                      have hlt : P + f < len := by
                        have h9 : btN t len (P + f) = _ := c109
                        unfold btN at h9
                        split at h9
                        · assumption
                        · omega
                      have hns : numR t len P (if k + 1 < c then 44 else sep) 0 999 = some (vlN t P f, P + f + 1) := by
                        rw [hsk]
                        exact fig_s ha hrg.1 hrg.2 (by omega) c109
                      refine ww_aload0 C dX7_figures_114 ?_
                      refine ww_getf C fl_X7_58 hM.1 rfl dX7_figures_115 ?_
                      refine ww_iload3 C dX7_figures_118 ?_
                      refine ww_iload5 C dX7_figures_119 ?_
                      refine ww_iastN C hM.a16 (by omega) dX7_figures_121 (kk := fun w7 hw7 => ?_)
                      have hf : fr w w7 59 83 := hf.tr (fr.up hw7 (by omega) (by omega))
                      obtain ⟨A7, hM, e7, o7⟩ := hM.st 16 (by decide) hw7
                      refine ww_aload0 C dX7_figures_122 ?_
                      refine ww_dup C dX7_figures_123 rfl ?_
                      refine ww_getf C fl_X7_98 hM.1 rfl dX7_figures_124 ?_
                      refine ww_iconst C (v := nI 1) dX7_figures_127 (by decide) ?_
                      refine ww_iaddN C dX7_figures_128 ?_
                      refine ww_putI C fl_X7_98 hM.1 (Nat.le_of_ble_eq_true rfl) rfl dX7_figures_129 (fun w8 hw8 => ?_)
                      have hf : fr w w8 59 83 := hf.tr (fr.up hw8 (by omega) (by omega))
                      have hM := hM.setO (len2 := len) (km2 := km) (pl2 := P + f + 1) hw8
                      refine ww_iincN3 C dX7_figures_132 (by decide) rfl ?_
                      refine ww_goto C (tgt := 2) dX7_figures_135 (by decide) ?_
                      exact ih2 (k + 1) (P + f + 1) A7 _ _ _ (by omega) (by omega) (by omega) (hI.step hc12 (by omega) e7 hns) (fun b hb => (o7 b hb).trans (hBo b hb)) hM hf
                    · skip
                      have hsk : (if k + 1 < c then 44 else sep) = 44 := if_pos (by omega)
                      have hnn : numR t len P (if k + 1 < c then 44 else sep) 0 999 = none := by
                        rw [hsk]
                        exact fig_n ha (by omega) (Or.inl (by omega)) (by omega) (Or.inr c109)
                      have hfb := hI.no hc12 (by omega) hnn
                      refine ww_iconst C (v := nI 0) dX7_figures_112 (by decide) ?_
                      exact ww_rzq C dX7_figures_113 rfl ⟨Nat.le_of_ble_eq_true rfl, Nat.le_of_ble_eq_true rfl⟩ (by rw [hfb]; rfl) ⟨B, _, hM, hf, hBo, hpf, fun e => by rw [hfb] at e; cases e⟩
              · skip
                have hd := of_decide_eq_true c31
                have hbt := bt_dg c31
                refine ww_bipush C (v := nI 10) dX7_figures_40 (by decide) ?_
                refine ww_iload5 C dX7_figures_42 ?_
                refine ww_imulN C dX7_figures_44 ?_
                refine ww_aload0 C dX7_figures_45 ?_
                refine ww_aload0 C dX7_figures_46 ?_
                refine ww_getf C fl_X7_98 hM.1 rfl dX7_figures_47 ?_
                refine ww_cV1v C hM.1 rfl (c_byteAt g n u hM (t := t) (fun j hj => (congrFun (hBo 0 (by decide)) j).trans (ht j hj)) hl4 (k := P + f) (by omega)) kV_X7_101 ⟨Nat.le_of_ble_eq_true rfl, Nat.le_of_ble_eq_true rfl⟩ ⟨rfl, rfl⟩ ⟨Nat.le_of_ble_eq_true rfl, Nat.le_of_ble_eq_true rfl⟩ (Nat.le_of_ble_eq_true rfl) dX7_figures_50 ?_
                refine ww_iaddN C dX7_figures_53 ?_
                refine ww_bipush C (v := nI 48) dX7_figures_54 (by decide) ?_
                refine ww_isubN C (by omega) dX7_figures_56 ?_
                refine ww_topi (show nI (10 * vlN t P f + btN t len (P + f) - 48) = nI (vlN t P (f + 1)) by rw [hbt]; show _ = nI (vlN t P f * 10 + t (P + f) - 48); congr 1; omega) ?_
                refine ww_istore5 C dX7_figures_57 (by decide) rfl ?_
                refine ww_iincN4 C dX7_figures_59 (by decide) rfl ?_
                refine ww_aload0 C dX7_figures_62 ?_
                refine ww_dup C dX7_figures_63 rfl ?_
                refine ww_getf C fl_X7_98 hM.1 rfl dX7_figures_64 ?_
                refine ww_iconst C (v := nI 1) dX7_figures_67 (by decide) ?_
                refine ww_iaddN C dX7_figures_68 ?_
                refine ww_putI C fl_X7_98 hM.1 (Nat.le_of_ble_eq_true rfl) rfl dX7_figures_69 (fun w9 hw9 => ?_)
                have hf : fr w w9 59 83 := hf.tr (fr.up hw9 (by omega) (by omega))
                have hM := hM.setO (len2 := len) (km2 := km) (pl2 := P + f + 1) hw9
                refine ww_goto C (tgt := 13) dX7_figures_72 (by decide) ?_
                exact ih13 (f + 1) _ (by omega) (by omega) (lt_s ha c31) (by omega) hM hf
        exact lp13 (5) 0 _ (by omega) (by omega) (fun q hq => absurd hq (by omega)) (by omega) hM hf
  exact lp2 (c + 1) 0 pl A _ _ _ (by omega) (by omega) (by omega) ⟨fun _ => rfl, fun e => absurd e (by decide), fun e => absurd e (by decide)⟩ (fun _ _ => rfl) hM hf
