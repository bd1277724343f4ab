def itemR (t : Nat → Nat) (len pl : Nat) (h : Hs) : Option (Nat × Hs) := if t pl = 110 then itP t len (pl + 1) h else if t pl = 108 then itL t len (pl + 1) h else if t pl = 107 then itK t len (pl + 1) h else if t pl = 115 then itS t len (pl + 1) h else if t pl = 98 then itB t len (pl + 1) h else if t pl = 109 then itM t len (pl + 1) h else none
theorem itQ.mono {it it2 : Option (Nat × Hs)} {k j len : Nat} {t : Nat → Nat} {w w0 w1 : Wd} (h : itQ it k j t len w0 w1) (hF : fr2 w w0 k (k + 3) j (j + 10)) (e : it2 = it) : itQ it2 k j t len w w1 := by
  obtain ⟨p1, nm2, h2, a, b, c, d⟩ := h
  subst e
  exact ⟨p1, nm2, h2, a, b, c, hF.tr d⟩
theorem tab_def (c : Nat) (h1 : c < 116) (h2 : 98 ≤ c) (a1 : ¬ c = 98) (a2 : ¬ c = 107) (a3 : ¬ c = 108) (a4 : ¬ c = 109) (a5 : ¬ c = 110) (a6 : ¬ c = 115) : (#[112, 124, 124, 124, 124, 124, 124, 124, 124, 100, 94, 118, 88, 124, 124, 124, 124, 106] : Array Int)[((nI c).toInt - 98).toNat]? = some 124 := by
  rcases (show c = 99 ∨ c = 100 ∨ c = 101 ∨ c = 102 ∨ c = 103 ∨ c = 104 ∨ c = 105 ∨ c = 106 ∨ c = 111 ∨ c = 112 ∨ c = 113 ∨ c = 114 by omega) with rfl | rfl | rfl | rfl | rfl | rfl | rfl | rfl | rfl | rfl | rfl | rfl <;> decide
theorem HS.frm2 {w w1 : Wd} {k a c : Nat} {h : Hs} (e : HS w k h) (hf : fr w w1 a c) (hd : k + 10 ≤ a ∨ c ≤ k) : HS w1 k h := HR.frm e hf hd
theorem c_readItem (g : Gx) (n : Nat) (w : Wd) {k len pl j : Nat} {t nm : Nat → Nat} {h : Hs} (hS : SR w k t len pl nm) (hH : HS w j h) (hd : k + 3 ≤ j ∨ j + 10 ≤ k) (hlt : pl < len) : CT g yX5_readItem cX5_readItem 3 (some .boolean) rm_X5_readItem n n w [.ref k, .ref j] (Rq (.int (bz (itemR t len pl h).isSome)) (itQ (itemR t len pl h) k j t len w)) := by
  have hF : fr2 w w k (k + 3) j (j + 10) := fun _ _ _ => rfl
  have hlen := hS.2.2.2.1
  have htp := hS.2.2.2.2.2.1 pl
  refine CT.start [some (.ref k), some (.ref j), none] (by decide +kernel) rfl (Nat.le_of_ble_eq_true rfl) (fun x C hnm => ?_)
  refine ww_aload0 C dX5_readItem_0 ?_
  refine ww_cV0v C hS.1 rfl (c_here g n w hS) kV_X5_35 ⟨Nat.le_of_ble_eq_true rfl, Nat.le_of_ble_eq_true rfl⟩ ⟨rfl, rfl⟩ ⟨Nat.le_of_ble_eq_true rfl, Nat.le_of_ble_eq_true rfl⟩ (Nat.le_of_ble_eq_true rfl) dX5_readItem_1 ?_
  refine ww_topi (show hrI t len pl = nI (t pl) by unfold hrI; rw [if_pos hlt]) ?_
  refine ww_istore2 C dX5_readItem_4 (by decide) rfl ?_
  refine ww_aload0 C dX5_readItem_5 ?_
  refine ww_dup C dX5_readItem_6 rfl ?_
  refine ww_getf C fl_X5_19 hS.1 rfl dX5_readItem_7 ?_
  refine ww_iconst C (v := nI 1) dX5_readItem_10 (by decide) ?_
  refine ww_iaddN C dX5_readItem_11 ?_
  refine ww_putI C fl_X5_19 hS.1 (Nat.le_of_ble_eq_true rfl) rfl dX5_readItem_12 (fun w1 hw1 => ?_)
  have hF : fr2 w w1 k (k + 3) j (j + 10) := hF.tr (fr.l (fr.up hw1 (by omega) (by omega)) _ _)
  have hH := HS.frm2 hH (fr.up (a := k) (b := k + 3) hw1 (by omega) (by omega)) (by omega)
  have hS := hS.setO hw1 (by omega)
  refine ww_iload2 C dX5_readItem_15 ?_
  by_cases a110 : t pl = 110
  · rw [a110]
    refine ww_tabIn C (tgt := 104) dX5_readItem_16 (by decide) (by decide) rfl (by decide) ?_
    refine ww_aload0 C dX5_readItem_104 ?_
    refine ww_aload1 C dX5_readItem_105 ?_
    refine ww_cV1vq C hS.1 rfl (c_readPerson g n w1 hS hH hd) kV_X5_39 ⟨Nat.le_of_ble_eq_true rfl, Nat.le_of_ble_eq_true rfl⟩ ⟨rfl, rfl⟩ ⟨Nat.le_of_ble_eq_true rfl, Nat.le_of_ble_eq_true rfl⟩ (Nat.le_of_ble_eq_true rfl) dX5_readItem_106 (fun w2 hw2 => ?_)
    skip
    exact ww_rzq C dX5_readItem_109 rfl ⟨Nat.le_of_ble_eq_true rfl, Nat.le_of_ble_eq_true rfl⟩ (by unfold itemR; rw [if_pos a110]) (itQ.mono hw2 hF (by unfold itemR; rw [if_pos a110]))
  · skip
    by_cases a108 : t pl = 108
    · rw [a108]
      refine ww_tabIn C (tgt := 110) dX5_readItem_16 (by decide) (by decide) rfl (by decide) ?_
      refine ww_aload0 C dX5_readItem_110 ?_
      refine ww_aload1 C dX5_readItem_111 ?_
      refine ww_cV1vq C hS.1 rfl (c_readWorth g n w1 hS hH hd) kV_X5_42 ⟨Nat.le_of_ble_eq_true rfl, Nat.le_of_ble_eq_true rfl⟩ ⟨rfl, rfl⟩ ⟨Nat.le_of_ble_eq_true rfl, Nat.le_of_ble_eq_true rfl⟩ (Nat.le_of_ble_eq_true rfl) dX5_readItem_112 (fun w3 hw3 => ?_)
      skip
      exact ww_rzq C dX5_readItem_115 rfl ⟨Nat.le_of_ble_eq_true rfl, Nat.le_of_ble_eq_true rfl⟩ (by unfold itemR; rw [if_neg a110, if_pos a108]) (itQ.mono hw3 hF (by unfold itemR; rw [if_neg a110, if_pos a108]))
    · skip
      by_cases a107 : t pl = 107
      · rw [a107]
        refine ww_tabIn C (tgt := 116) dX5_readItem_16 (by decide) (by decide) rfl (by decide) ?_
        refine ww_aload0 C dX5_readItem_116 ?_
        refine ww_aload1 C dX5_readItem_117 ?_
        refine ww_cV1vq C hS.1 rfl (c_readShame g n w1 hS hH hd) kV_X5_45 ⟨Nat.le_of_ble_eq_true rfl, Nat.le_of_ble_eq_true rfl⟩ ⟨rfl, rfl⟩ ⟨Nat.le_of_ble_eq_true rfl, Nat.le_of_ble_eq_true rfl⟩ (Nat.le_of_ble_eq_true rfl) dX5_readItem_118 (fun w4 hw4 => ?_)
        skip
        exact ww_rzq C dX5_readItem_121 rfl ⟨Nat.le_of_ble_eq_true rfl, Nat.le_of_ble_eq_true rfl⟩ (by unfold itemR; rw [if_neg a110, if_neg a108, if_pos a107]) (itQ.mono hw4 hF (by unfold itemR; rw [if_neg a110, if_neg a108, if_pos a107]))
      · skip
        by_cases a115 : t pl = 115
        · rw [a115]
          refine ww_tabIn C (tgt := 122) dX5_readItem_16 (by decide) (by decide) rfl (by decide) ?_
          refine ww_aload0 C dX5_readItem_122 ?_
          refine ww_aload1 C dX5_readItem_123 ?_
          refine ww_cV1vq C hS.1 rfl (c_readBeats g n w1 hS hH hd) kV_X5_48 ⟨Nat.le_of_ble_eq_true rfl, Nat.le_of_ble_eq_true rfl⟩ ⟨rfl, rfl⟩ ⟨Nat.le_of_ble_eq_true rfl, Nat.le_of_ble_eq_true rfl⟩ (Nat.le_of_ble_eq_true rfl) dX5_readItem_124 (fun w5 hw5 => ?_)
          skip
          exact ww_rzq C dX5_readItem_127 rfl ⟨Nat.le_of_ble_eq_true rfl, Nat.le_of_ble_eq_true rfl⟩ (by unfold itemR; rw [if_neg a110, if_neg a108, if_neg a107, if_pos a115]) (itQ.mono hw5 hF (by unfold itemR; rw [if_neg a110, if_neg a108, if_neg a107, if_pos a115]))
        · skip
          by_cases a98 : t pl = 98
          · rw [a98]
            refine ww_tabIn C (tgt := 128) dX5_readItem_16 (by decide) (by decide) rfl (by decide) ?_
            refine ww_aload0 C dX5_readItem_128 ?_
            refine ww_aload1 C dX5_readItem_129 ?_
            refine ww_cV1vq C hS.1 rfl (c_readBreath g n w1 hS hH hd) kV_X5_51 ⟨Nat.le_of_ble_eq_true rfl, Nat.le_of_ble_eq_true rfl⟩ ⟨rfl, rfl⟩ ⟨Nat.le_of_ble_eq_true rfl, Nat.le_of_ble_eq_true rfl⟩ (Nat.le_of_ble_eq_true rfl) dX5_readItem_130 (fun w6 hw6 => ?_)
            skip
            exact ww_rzq C dX5_readItem_133 rfl ⟨Nat.le_of_ble_eq_true rfl, Nat.le_of_ble_eq_true rfl⟩ (by unfold itemR; rw [if_neg a110, if_neg a108, if_neg a107, if_neg a115, if_pos a98]) (itQ.mono hw6 hF (by unfold itemR; rw [if_neg a110, if_neg a108, if_neg a107, if_neg a115, if_pos a98]))
          · skip
            by_cases a109 : t pl = 109
            · rw [a109]
              refine ww_tabIn C (tgt := 134) dX5_readItem_16 (by decide) (by decide) rfl (by decide) ?_
              refine ww_aload0 C dX5_readItem_134 ?_
              refine ww_aload1 C dX5_readItem_135 ?_
              refine ww_cV1vq C hS.1 rfl (c_readMisheard g n w1 hS hH hd) kV_X5_54 ⟨Nat.le_of_ble_eq_true rfl, Nat.le_of_ble_eq_true rfl⟩ ⟨rfl, rfl⟩ ⟨Nat.le_of_ble_eq_true rfl, Nat.le_of_ble_eq_true rfl⟩ (Nat.le_of_ble_eq_true rfl) dX5_readItem_136 (fun w7 hw7 => ?_)
              skip
              exact ww_rzq C dX5_readItem_139 rfl ⟨Nat.le_of_ble_eq_true rfl, Nat.le_of_ble_eq_true rfl⟩ (by unfold itemR; rw [if_neg a110, if_neg a108, if_neg a107, if_neg a115, if_neg a98, if_pos a109]) (itQ.mono hw7 hF (by unfold itemR; rw [if_neg a110, if_neg a108, if_neg a107, if_neg a115, if_neg a98, if_pos a109]))
            · skip
              by_cases rg : t pl < 98 ∨ 115 < t pl
              · refine ww_tabOut C (tgt := 140) dX5_readItem_16 (by rw [nI_toInt (by omega)]; omega) (by decide) ?_
                refine ww_iconst C (v := nI 0) dX5_readItem_140 (by decide) ?_
                exact ww_rzq C dX5_readItem_141 rfl ⟨Nat.le_of_ble_eq_true rfl, Nat.le_of_ble_eq_true rfl⟩ (by unfold itemR; rw [if_neg a110, if_neg a108, if_neg a107, if_neg a115, if_neg a98, if_neg a109]; rfl) ⟨_, _, h, hS, hH, (fun r hr => by unfold itemR at hr; rw [if_neg a110, if_neg a108, if_neg a107, if_neg a115, if_neg a98, if_neg a109] at hr; cases hr), hF⟩
              · refine ww_tabIn C (tgt := 140) dX5_readItem_16 (by rw [nI_toInt (by omega)]; omega) (by rw [nI_toInt (by omega)]; omega) (tab_def (t pl) (by omega) (by omega) a98 a107 a108 a109 a110 a115) (by decide) ?_
                refine ww_iconst C (v := nI 0) dX5_readItem_140 (by decide) ?_
                exact ww_rzq C dX5_readItem_141 rfl ⟨Nat.le_of_ble_eq_true rfl, Nat.le_of_ble_eq_true rfl⟩ (by unfold itemR; rw [if_neg a110, if_neg a108, if_neg a107, if_neg a115, if_neg a98, if_neg a109]; rfl) ⟨_, _, h, hS, hH, (fun r hr => by unfold itemR at hr; rw [if_neg a110, if_neg a108, if_neg a107, if_neg a115, if_neg a98, if_neg a109] at hr; cases hr), hF⟩
def rdN (t : Nat → Nat) (len : Nat) : Nat → Nat → Hs → Option Nat × Hs
  | 0, _, h => (none, h)
  | f + 1, pl, h => if pl < len then (match itemR t len pl h with
    | none => (some pl, h)
    | some r => rdN t len f r.1 r.2) else (none, h)
theorem rdN_x {t : Nat → Nat} {len pl f : Nat} {h : Hs} (c : ¬ pl < len) : rdN t len f pl h = (none, h) := by
  cases f with
  | zero => rfl
  | succ f => show (if pl < len then _ else _) = _; rw [if_neg c]
theorem rdN_n {t : Nat → Nat} {len pl f : Nat} {h : Hs} (c : pl < len) (e : itemR t len pl h = none) : rdN t len (f + 1) pl h = (some pl, h) := by show (if pl < len then _ else _) = _; rw [if_pos c, e]
theorem rdN_s {t : Nat → Nat} {len pl f : Nat} {h : Hs} {r : Nat × Hs} (c : pl < len) (e : itemR t len pl h = some r) : rdN t len (f + 1) pl h = rdN t len f r.1 r.2 := by
  conv => lhs; unfold rdN
  rw [if_pos c, e]
/-- a hill of which nothing is told -/
def emp (h : Hs) : Hs := (h.1, h.2.1, h.2.2.1, 0, h.2.2.2.2.1, h.2.2.2.2.2.1, filN (fun d => d) h.2.2.2.2.2.2.1 6, filN (fun _ => 0) h.2.2.2.2.2.2.2.1 6, filN (fun _ => 1) h.2.2.2.2.2.2.2.2.1 6, 4, 3, 1)
theorem c_readInto (g : Gx) (n : Nat) (w : Wd) {k len pl j : Nat} {t nm : Nat → Nat} {h : Hs} (hS : SR w k t len pl nm) (hH : HS w j h) (hd : k + 3 ≤ j ∨ j + 10 ≤ k) : CT g yX5_readInto cX5_readInto 4 (some .int) rm_X5_readInto n n w [.ref k, .ref j] (Rq (.int (oI (rdN t len 400 0 (emp h)).1)) (fun w1 => ∃ p1 nm2 h2, SR w1 k t len p1 nm2 ∧ HS w1 j h2 ∧ ((rdN t len 400 0 (emp h)).1 = none → h2 = (rdN t len 400 0 (emp h)).2) ∧ fr2 w w1 k (k + 3) j (j + 10))) := by
  have hF : fr2 w w k (k + 3) j (j + 10) := fun _ _ _ => rfl
  have hlen := hS.2.2.2.1
  refine CT.start [some (.ref k), some (.ref j), none, none] (by decide +kernel) rfl (Nat.le_of_ble_eq_true rfl) (fun x C hnm => ?_)
  refine ww_aload1 C dX5_readInto_0 ?_
  refine ww_cV00q C hH.1 rfl (c_hillEmpty g n w hH) kV_X5_26 ⟨Nat.le_of_ble_eq_true rfl, Nat.le_of_ble_eq_true rfl⟩ ⟨rfl, rfl⟩ ⟨Nat.le_of_ble_eq_true rfl, Nat.le_of_ble_eq_true rfl⟩ (Nat.le_of_ble_eq_true rfl) dX5_readInto_1 (fun w1 hw1 => ?_)
  obtain ⟨hH1, hf1⟩ := hw1
  have hH : HS w1 j (emp h) := hH1
  have hS := hS.frm hf1 (by omega)
  have hF : fr2 w w1 k (k + 3) j (j + 10) := hF.tr (hf1.r _ _)
  refine ww_aload0 C dX5_readInto_4 ?_
  refine ww_iconst C (v := nI 0) dX5_readInto_5 (by decide) ?_
  refine ww_putI C fl_X5_19 hS.1 (Nat.le_of_ble_eq_true rfl) rfl dX5_readInto_6 (fun w2 hw2 => ?_)
  have hF : fr2 w w2 k (k + 3) j (j + 10) := hF.tr (fr.l (fr.up hw2 (by omega) (by omega)) _ _)
  have hH := HS.frm2 hH (fr.up (a := k) (b := k + 3) hw2 (by omega) (by omega)) (by omega)
  have hS := hS.setO hw2 (by omega)
  refine ww_iconst C (v := nI 0) dX5_readInto_9 (by decide) ?_
  refine ww_istore2 C dX5_readInto_10 (by decide) rfl ?_
  have lp11 : ∀ (m : Nat) (c pl : Nat) (nm2 : Nat → Nat) (h1 : Hs) (u : Wd) (z3 : Option Value), c ≤ 400 → 400 < c + m → SR u k t len pl nm2 → HS u j h1 → rdN t len 400 0 (emp h) = rdN t len (400 - c) pl h1 → fr2 w u k (k + 3) j (j + 10) → WW g x 4 0 0 n u 11 [some (.ref k), some (.ref j), some (.int (nI c)), z3] [] := by
    intro m
    induction m with
    | zero =>
      intro c pl nm2 h1 u z3 hc0 hm hS hH hR hF
      exact absurd hm (by omega)
    | succ m ih11 =>
      intro c pl nm2 h1 u z3 hc0 hm hS hH hR hF
      refine ww_iload2 C dX5_readInto_11 ?_
      refine ww_sipush C (v := nI 400) dX5_readInto_12 (by decide) ?_
      refine ww_icmpgeN C (by omega) (tgt := 50) dX5_readInto_15 (by decide) (fun c15 => ?_) (fun c15 => ?_)
      · skip
        refine ww_bipush C (v := -4) dX5_readInto_50 (by decide) ?_
        exact ww_riq C dX5_readInto_52 rfl ⟨Nat.le_of_ble_eq_true rfl, Nat.le_of_ble_eq_true rfl⟩ (by rw [hR, show 400 - c = 0 by omega, show rdN t len 0 pl h1 = (none, h1) from rfl]; rfl) ⟨_, _, h1, hS, hH, (fun _ => by rw [hR, show 400 - c = 0 by omega, show rdN t len 0 pl h1 = (none, h1) from rfl]), hF⟩
      · skip
        refine ww_aload0 C dX5_readInto_18 ?_
        refine ww_getf C fl_X5_19 hS.1 rfl dX5_readInto_19 ?_
        refine ww_aload0 C dX5_readInto_22 ?_
        refine ww_getf C fl_X5_15 hS.1 rfl dX5_readInto_23 ?_
        refine ww_icmpgeN C (by have := hS.2.2.2.2.1; omega) (tgt := 50) dX5_readInto_26 (by decide) (fun c26 => ?_) (fun c26 => ?_)
        · skip
          refine ww_bipush C (v := -4) dX5_readInto_50 (by decide) ?_
          exact ww_riq C dX5_readInto_52 rfl ⟨Nat.le_of_ble_eq_true rfl, Nat.le_of_ble_eq_true rfl⟩ (by rw [hR, rdN_x (by omega)]; rfl) ⟨_, _, h1, hS, hH, (fun _ => by rw [hR, rdN_x (by omega)]), hF⟩
        · skip
          refine ww_aload0 C dX5_readInto_29 ?_
          refine ww_getf C fl_X5_19 hS.1 rfl dX5_readInto_30 ?_
          refine ww_istore3 C dX5_readInto_33 (by decide) rfl ?_
          refine ww_aload0 C dX5_readInto_34 ?_
          refine ww_aload1 C dX5_readInto_35 ?_
          refine ww_cV1vq C hS.1 rfl (c_readItem g n u hS hH hd c26) kV_X5_31 ⟨Nat.le_of_ble_eq_true rfl, Nat.le_of_ble_eq_true rfl⟩ ⟨rfl, rfl⟩ ⟨Nat.le_of_ble_eq_true rfl, Nat.le_of_ble_eq_true rfl⟩ (Nat.le_of_ble_eq_true rfl) dX5_readInto_36 (fun w3 hw3 => ?_)
          obtain ⟨p5, nm5, h5, hS5, hH5, he5, hF5⟩ := hw3
          rcases q9 : itemR t len pl h1 with _ | r9
          · skip
            refine ww_ifneB C (tgt := 44) dX5_readInto_39 (by decide) (fun c39 => ?_) (fun c39 => ?_)
            · skip
              cases c39
            · skip
              refine ww_iload3 C dX5_readInto_42 ?_
              exact ww_riq C dX5_readInto_43 rfl ⟨Nat.le_of_ble_eq_true rfl, Nat.le_of_ble_eq_true rfl⟩ (by rw [hR, show 400 - c = (400 - (c + 1)) + 1 by omega, rdN_n c26 q9]; rfl) ⟨p5, nm5, h5, hS5, hH5, (fun e => by rw [hR, show 400 - c = (400 - (c + 1)) + 1 by omega, rdN_n c26 q9] at e; cases e), hF.tr hF5⟩
          · skip
            refine ww_ifneB C (tgt := 44) dX5_readInto_39 (by decide) (fun c39 => ?_) (fun c39 => ?_)
            · skip
              refine ww_iincN2 C dX5_readInto_44 (by decide) rfl ?_
              refine ww_goto C (tgt := 11) dX5_readInto_47 (by decide) ?_
              exact ih11 (c + 1) p5 nm5 h5 _ _ (by omega) (by omega) hS5 hH5 (by obtain ⟨e1, e2⟩ := he5 r9 q9; rw [hR, show 400 - c = (400 - (c + 1)) + 1 by omega, rdN_s c26 q9, e1, e2]) (hF.tr hF5)
            · skip
              cases c39
  exact lp11 (401) 0 0 _ _ _ _ (by omega) (by omega) hS hH rfl hF
/-- the i-th byte of v, from the lowest on -/
def byN (v : Int64) (i : Nat) : Nat := v.toBitVec.toNat / 2 ^ (8 * i) % 256
theorem byN_lt (v : Int64) (i : Nat) : byN v i < 256 := Nat.mod_lt _ (by decide)
def ptN (t : Nat → Nat) (len q : Nat) (v : Int64) (c : Nat) : Nat → Nat := fun j => if len ≤ j ∧ j < len + c then byN v (q - 1 - (j - len)) else t j
theorem ptN_s (t : Nat → Nat) (len q : Nat) (v : Int64) (c : Nat) : va_up (ptN t len q v c) (len + c) (byN v (q - 1 - c)) = ptN t len q v (c + 1) := by
  funext j
  unfold va_up ptN
  by_cases h : j = len + c
  · rw [if_pos h, if_pos (by omega), h]
    congr 1
    omega
  · rw [if_neg h]
    by_cases h2 : len ≤ j ∧ j < len + c
    · rw [if_pos h2, if_pos (by omega)]
    · rw [if_neg h2, if_neg (by omega)]
theorem ptN_0 (t : Nat → Nat) (len q : Nat) (v : Int64) : ptN t len q v 0 = t := by
  funext j
  unfold ptN
  rw [if_neg (by omega)]
theorem ptN_lt {t : Nat → Nat} (ht : ∀ j, t j < 256) (len q : Nat) (v : Int64) (c : Nat) : ∀ j, ptN t len q v c j < 256 := fun j => by
  unfold ptN
  split
  · exact byN_lt _ _
  · exact ht j
theorem byte_put (v : Int64) {i : Nat} (hi : i < 8) : vp_nar .byte (((v.toUInt64 >>> ((nI (8 * i)).toInt64.toUInt64 &&& Int64.toUInt64 63)).toInt64.toInt32).toInt8.toInt32) = sb_b (byN v i) := by
  have e1 : ∀ i, i < 8 → (((nI (8 * i)).toInt64.toUInt64 &&& Int64.toUInt64 63).toBitVec % 64).toNat = 8 * i := by decide
  have key : ∀ (a : Int32) (c : Nat), a.toBitVec.toNat % 256 = c % 256 → a.toInt8 = (nI c).toInt8 := by
    intro a c h
    apply Int8.toBitVec_inj.1
    apply BitVec.eq_of_toNat_eq
    show (a.toBitVec.signExtend 8).toNat = ((nI c).toBitVec.signExtend 8).toNat
    rw [BitVec.signExtend_eq_setWidth_of_le _ (by decide), BitVec.signExtend_eq_setWidth_of_le _ (by decide), BitVec.toNat_setWidth, BitVec.toNat_setWidth]
    show a.toBitVec.toNat % 256 = (BitVec.ofNat 32 c).toNat % 256
    rw [BitVec.toNat_ofNat, h]
    omega
  rw [vp_nar_byte]
  unfold sb_b
  rw [Int8.toInt8_toInt32]
  congr 1
  apply key
  show (v.toUInt64 >>> ((nI (8 * i)).toInt64.toUInt64 &&& Int64.toUInt64 63)).toInt64.toInt32.toBitVec.toNat % 256 = _
  have e2 : (v.toUInt64 >>> ((nI (8 * i)).toInt64.toUInt64 &&& Int64.toUInt64 63)).toBitVec.toNat = v.toBitVec.toNat / 2 ^ (8 * i) := by
    rw [UInt64.toBitVec_shiftRight]
    rw [BitVec.ushiftRight_eq', BitVec.toNat_ushiftRight, e1 i hi, Nat.shiftRight_eq_div_pow]
    rfl
  have e3 : (v.toUInt64 >>> ((nI (8 * i)).toInt64.toUInt64 &&& Int64.toUInt64 63)).toInt64.toInt32.toBitVec.toNat = (v.toUInt64 >>> ((nI (8 * i)).toInt64.toUInt64 &&& Int64.toUInt64 63)).toBitVec.toNat % 4294967296 := by
    show ((v.toUInt64 >>> ((nI (8 * i)).toInt64.toUInt64 &&& Int64.toUInt64 63)).toBitVec.signExtend 32).toNat = _
    rw [BitVec.signExtend_eq_setWidth_of_le _ (by decide), BitVec.toNat_setWidth]
  rw [e3, e2]
  unfold byN
  omega
