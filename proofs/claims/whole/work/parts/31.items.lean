/-- a hill's numbers: kinds, sizes, syllables, people, paces, ranks, worth, shame, beats, B, V, M -/
abbrev Hs : Type := (Nat → Nat) × (Nat → Nat) × (Nat → Nat) × Nat × (Nat → Nat) × (Nat → Nat) × (Nat → Nat) × (Nat → Nat) × (Nat → Nat) × Nat × Nat × Nat
def HS (w : Wd) (k : Nat) (h : Hs) : Prop := HR w k h.1 h.2.1 h.2.2.1 h.2.2.2.1 h.2.2.2.2.1 h.2.2.2.2.2.1 h.2.2.2.2.2.2.1 h.2.2.2.2.2.2.2.1 h.2.2.2.2.2.2.2.2.1 h.2.2.2.2.2.2.2.2.2.1 h.2.2.2.2.2.2.2.2.2.2.1 h.2.2.2.2.2.2.2.2.2.2.2
def fr2 (w w1 : Wd) (a b c d : Nat) : Prop := ∀ j, (j < a ∨ b ≤ j) → (j < c ∨ d ≤ j) → w1 j = w j
theorem fr.l {w w1 : Wd} {a b : Nat} (h : fr w w1 a b) (c d : Nat) : fr2 w w1 a b c d := fun j h1 _ => h j h1
theorem fr.r {w w1 : Wd} {c d : Nat} (h : fr w w1 c d) (a b : Nat) : fr2 w w1 a b c d := fun j _ h2 => h j h2
theorem fr2.tr {w w1 w2 : Wd} {a b c d : Nat} (h : fr2 w w1 a b c d) (h2 : fr2 w1 w2 a b c d) : fr2 w w2 a b c d := fun j h3 h4 => (h2 j h3 h4).trans (h j h3 h4)
theorem enS_c {S : Nat → Nat} {p c : Nat} {F E : Nat → Nat} (h : ∀ j, j < c → F j = E j) : enS S p F c = enS S p E c := by
  funext j
  unfold enS
  by_cases q : 10 * p ≤ j ∧ j < 10 * p + c
  · rw [if_pos q, if_pos q, h _ (by omega)]
  · rw [if_neg q, if_neg q]
def itP (t : Nat → Nat) (len pl : Nat) (h : Hs) : Option (Nat × Hs) := match numR t len pl 44 0 3 with
  | none => none
  | some r1 => match namR t len r1.2 with
    | none => none
    | some r2 => match numR t len r2.2 44 0 99 with
      | none => none
      | some r3 => match numR t len r3.2 59 0 9 with
        | none => none
        | some r4 => if h.2.2.2.1 < 8 then some (r4.2, (va_up h.1 h.2.2.2.1 r1.1, va_up h.2.1 h.2.2.2.1 r2.1, enS h.2.2.1 h.2.2.2.1 (fun j => t (r1.2 + j) - 48) r2.1, h.2.2.2.1 + 1, va_up h.2.2.2.2.1 h.2.2.2.1 r3.1, va_up h.2.2.2.2.2.1 h.2.2.2.1 r4.1, h.2.2.2.2.2.2)) else none
def itL (t : Nat → Nat) (len pl : Nat) (h : Hs) : Option (Nat × Hs) := match numR t len pl 44 0 5 with
  | none => none
  | some r1 => match numR t len r1.2 59 0 5 with
    | none => none
    | some r2 => some (r2.2, (h.1, h.2.1, h.2.2.1, h.2.2.2.1, h.2.2.2.2.1, h.2.2.2.2.2.1, va_up h.2.2.2.2.2.2.1 r1.1 r2.1, h.2.2.2.2.2.2.2))
def itK (t : Nat → Nat) (len pl : Nat) (h : Hs) : Option (Nat × Hs) := match numR t len pl 59 0 5 with
  | none => none
  | some r1 => some (r1.2, (h.1, h.2.1, h.2.2.1, h.2.2.2.1, h.2.2.2.2.1, h.2.2.2.2.2.1, h.2.2.2.2.2.2.1, va_up h.2.2.2.2.2.2.2.1 r1.1 1, h.2.2.2.2.2.2.2.2))
def itS (t : Nat → Nat) (len pl : Nat) (h : Hs) : Option (Nat × Hs) := match numR t len pl 44 0 5 with
  | none => none
  | some r1 => match numR t len r1.2 59 1 9 with
    | none => none
    | some r2 => some (r2.2, (h.1, h.2.1, h.2.2.1, h.2.2.2.1, h.2.2.2.2.1, h.2.2.2.2.2.1, h.2.2.2.2.2.2.1, h.2.2.2.2.2.2.2.1, va_up h.2.2.2.2.2.2.2.2.1 r1.1 r2.1, h.2.2.2.2.2.2.2.2.2))
def itB (t : Nat → Nat) (len pl : Nat) (h : Hs) : Option (Nat × Hs) := match numR t len pl 44 1 12 with
  | none => none
  | some r1 => match numR t len r1.2 59 0 20 with
    | none => none
    | some r2 => some (r2.2, (h.1, h.2.1, h.2.2.1, h.2.2.2.1, h.2.2.2.2.1, h.2.2.2.2.2.1, h.2.2.2.2.2.2.1, h.2.2.2.2.2.2.2.1, h.2.2.2.2.2.2.2.2.1, r1.1, r2.1, h.2.2.2.2.2.2.2.2.2.2.2))
def itM (t : Nat → Nat) (len pl : Nat) (h : Hs) : Option (Nat × Hs) := match numR t len pl 59 0 9 with
  | none => none
  | some r1 => some (r1.2, (h.1, h.2.1, h.2.2.1, h.2.2.2.1, h.2.2.2.2.1, h.2.2.2.2.2.1, h.2.2.2.2.2.2.1, h.2.2.2.2.2.2.2.1, h.2.2.2.2.2.2.2.2.1, h.2.2.2.2.2.2.2.2.2.1, h.2.2.2.2.2.2.2.2.2.2.1, r1.1))
def itQ (it : Option (Nat × Hs)) (k j : Nat) (t : Nat → Nat) (len : Nat) (w : Wd) (w1 : Wd) : Prop := ∃ p1 nm2 h2, SR w1 k t len p1 nm2 ∧ HS w1 j h2 ∧ (∀ r, it = some r → p1 = r.1 ∧ h2 = r.2) ∧ fr2 w w1 k (k + 3) j (j + 10)
theorem c_readWorth (g : Gx) (n : Nat) (w : Wd) {k len pl j : Nat} {t nm : Nat → Nat} {p b v mi : Nat} {K M S X R wo sh be : Nat → Nat} (hS : SR w k t len pl nm) (hH : HR w j K M S p X R wo sh be b v mi) (hd : k + 3 ≤ j ∨ j + 10 ≤ k) : CT g yX5_readWorth cX5_readWorth 4 (some .boolean) rm_X5_readWorth n n w [.ref k, .ref j] (Rq (.int (bz (itL t len pl (K, M, S, p, X, R, wo, sh, be, b, v, mi)).isSome)) (itQ (itL t len pl (K, M, S, p, X, R, wo, sh, be, b, v, mi)) k j t len w)) := by
  have hF : fr2 w w k (k + 3) j (j + 10) := fun _ _ _ => rfl
  have hlen := hS.2.2.2.1
  refine CT.start [some (.ref k), some (.ref j), none, none] (by decide +kernel) rfl (Nat.le_of_ble_eq_true rfl) (fun x C hnm => ?_)
  refine ww_aload0 C dX5_readWorth_0 ?_
  refine ww_iconst C (v := nI 0) dX5_readWorth_1 (by decide) ?_
  refine ww_iconst C (v := nI 5) dX5_readWorth_2 (by decide) ?_
  refine ww_bipush C (v := nI 44) dX5_readWorth_3 (by decide) ?_
  refine ww_cV3vq C hS.1 rfl (c_number g n w hS (lo := 0) (hi := 5) (sep := 44) (by decide) (by decide) (by decide)) kV_X5_57 ⟨Nat.le_of_ble_eq_true rfl, Nat.le_of_ble_eq_true rfl⟩ ⟨rfl, rfl⟩ ⟨Nat.le_of_ble_eq_true rfl, Nat.le_of_ble_eq_true rfl⟩ (Nat.le_of_ble_eq_true rfl) dX5_readWorth_5 (fun w1 hw1 => ?_)
  obtain ⟨p1, hS, he1, hf1⟩ := hw1
  have hH := hH.frm hf1 (by omega)
  have hF : fr2 w w1 k (k + 3) j (j + 10) := hF.tr (hf1.l _ _)
  rcases q1 : numR t len pl 44 0 5 with _ | r1
  · skip
    refine ww_istore2 C dX5_readWorth_8 (by decide) rfl ?_
    refine ww_iload2 C dX5_readWorth_9 ?_
    refine ww_iconst C (v := -1) dX5_readWorth_10 (by decide) ?_
    refine ww_icmpne C (tgt := 16) dX5_readWorth_11 (by decide) (fun c11 => ?_) (fun c11 => ?_)
    · skip
      exact absurd rfl c11
    · skip
      refine ww_iconst C (v := nI 0) dX5_readWorth_14 (by decide) ?_
      exact ww_rzq C dX5_readWorth_15 rfl ⟨Nat.le_of_ble_eq_true rfl, Nat.le_of_ble_eq_true rfl⟩ (by unfold itL; rw [q1]; rfl) ⟨_, _, (K, M, S, p, X, R, wo, sh, be, b, v, mi), hS, hH, (fun r hr => by unfold itL at hr; rw [q1] at hr; cases hr), hF⟩
  · skip
    have e1 := he1 r1 q1
    subst e1
    have hb1 := numR_le q1
    refine ww_topi (show nrI (some r1) = nI r1.1 from rfl) ?_
    refine ww_istore2 C dX5_readWorth_8 (by decide) rfl ?_
    refine ww_iload2 C dX5_readWorth_9 ?_
    refine ww_iconst C (v := -1) dX5_readWorth_10 (by decide) ?_
    refine ww_icmpne C (tgt := 16) dX5_readWorth_11 (by decide) (fun c11 => ?_) (fun c11 => ?_)
    · skip
      refine ww_aload0 C dX5_readWorth_16 ?_
      refine ww_iconst C (v := nI 0) dX5_readWorth_17 (by decide) ?_
      refine ww_iconst C (v := nI 5) dX5_readWorth_18 (by decide) ?_
      refine ww_bipush C (v := nI 59) dX5_readWorth_19 (by decide) ?_
      refine ww_cV3vq C hS.1 rfl (c_number g n w1 hS (lo := 0) (hi := 5) (sep := 59) (by decide) (by decide) (by decide)) kV_X5_57 ⟨Nat.le_of_ble_eq_true rfl, Nat.le_of_ble_eq_true rfl⟩ ⟨rfl, rfl⟩ ⟨Nat.le_of_ble_eq_true rfl, Nat.le_of_ble_eq_true rfl⟩ (Nat.le_of_ble_eq_true rfl) dX5_readWorth_21 (fun w2 hw2 => ?_)
      obtain ⟨p2, hS, he2, hf2⟩ := hw2
      have hH := hH.frm hf2 (by omega)
      have hF : fr2 w w2 k (k + 3) j (j + 10) := hF.tr (hf2.l _ _)
      rcases q2 : numR t len r1.2 59 0 5 with _ | r2
      · skip
        refine ww_istore3 C dX5_readWorth_24 (by decide) rfl ?_
        refine ww_iload3 C dX5_readWorth_25 ?_
        refine ww_iconst C (v := -1) dX5_readWorth_26 (by decide) ?_
        refine ww_icmpne C (tgt := 32) dX5_readWorth_27 (by decide) (fun c27 => ?_) (fun c27 => ?_)
        · skip
          exact absurd rfl c27
        · skip
          refine ww_iconst C (v := nI 0) dX5_readWorth_30 (by decide) ?_
          exact ww_rzq C dX5_readWorth_31 rfl ⟨Nat.le_of_ble_eq_true rfl, Nat.le_of_ble_eq_true rfl⟩ (by unfold itL; rw [q1]; dsimp only; rw [q2]; rfl) ⟨_, _, (K, M, S, p, X, R, wo, sh, be, b, v, mi), hS, hH, (fun r hr => by unfold itL at hr; rw [q1] at hr; dsimp only at hr; rw [q2] at hr; cases hr), hF⟩
      · skip
        have e2 := he2 r2 q2
        subst e2
        have hb2 := numR_le q2
        refine ww_topi (show nrI (some r2) = nI r2.1 from rfl) ?_
        refine ww_istore3 C dX5_readWorth_24 (by decide) rfl ?_
        refine ww_iload3 C dX5_readWorth_25 ?_
        refine ww_iconst C (v := -1) dX5_readWorth_26 (by decide) ?_
        refine ww_icmpne C (tgt := 32) dX5_readWorth_27 (by decide) (fun c27 => ?_) (fun c27 => ?_)
        · skip
          refine ww_aload1 C dX5_readWorth_32 ?_
          refine ww_getf C fl_X5_68 hH.1 rfl dX5_readWorth_33 ?_
          refine ww_iload2 C dX5_readWorth_36 ?_
          refine ww_iload3 C dX5_readWorth_37 ?_
          refine ww_iastN C hH.2.2.2.2.1 (by omega) dX5_readWorth_38 (kk := fun w3 hw3 => ?_)
          have hF : fr2 w w3 k (k + 3) j (j + 10) := hF.tr (fr.r (fr.up hw3 (by omega) (by omega)) _ _)
          have hS := hS.frm (fr.up (a := j) (b := j + 10) hw3 (by omega) (by omega)) (by omega)
          have hH := hH.setW hw3 (up_le hH.2.2.2.2.2.2.2.2.2.1 (by omega))
          refine ww_iconst C (v := nI 1) dX5_readWorth_39 (by decide) ?_
          exact ww_rzq C dX5_readWorth_40 rfl ⟨Nat.le_of_ble_eq_true rfl, Nat.le_of_ble_eq_true rfl⟩ (by unfold itL; rw [q1]; dsimp only; rw [q2]; rfl) ⟨_, _, (K, M, S, p, X, R, va_up wo r1.1 r2.1, sh, be, b, v, mi), hS, hH, (fun r hr => by unfold itL at hr; rw [q1] at hr; dsimp only at hr; rw [q2] at hr; cases hr; exact ⟨rfl, rfl⟩), hF⟩
        · skip
          exact absurd c27 (nr_ne (by omega))
    · skip
      exact absurd c11 (nr_ne (by omega))
theorem c_readShame (g : Gx) (n : Nat) (w : Wd) {k len pl j : Nat} {t nm : Nat → Nat} {p b v mi : Nat} {K M S X R wo sh be : Nat → Nat} (hS : SR w k t len pl nm) (hH : HR w j K M S p X R wo sh be b v mi) (hd : k + 3 ≤ j ∨ j + 10 ≤ k) : CT g yX5_readShame cX5_readShame 3 (some .boolean) rm_X5_readShame n n w [.ref k, .ref j] (Rq (.int (bz (itK t len pl (K, M, S, p, X, R, wo, sh, be, b, v, mi)).isSome)) (itQ (itK t len pl (K, M, S, p, X, R, wo, sh, be, b, v, mi)) k j t len w)) := by
  have hF : fr2 w w k (k + 3) j (j + 10) := fun _ _ _ => rfl
  have hlen := hS.2.2.2.1
  refine CT.start [some (.ref k), some (.ref j), none] (by decide +kernel) rfl (Nat.le_of_ble_eq_true rfl) (fun x C hnm => ?_)
  refine ww_aload0 C dX5_readShame_0 ?_
  refine ww_iconst C (v := nI 0) dX5_readShame_1 (by decide) ?_
  refine ww_iconst C (v := nI 5) dX5_readShame_2 (by decide) ?_
  refine ww_bipush C (v := nI 59) dX5_readShame_3 (by decide) ?_
  refine ww_cV3vq C hS.1 rfl (c_number g n w hS (lo := 0) (hi := 5) (sep := 59) (by decide) (by decide) (by decide)) kV_X5_57 ⟨Nat.le_of_ble_eq_true rfl, Nat.le_of_ble_eq_true rfl⟩ ⟨rfl, rfl⟩ ⟨Nat.le_of_ble_eq_true rfl, Nat.le_of_ble_eq_true rfl⟩ (Nat.le_of_ble_eq_true rfl) dX5_readShame_5 (fun w1 hw1 => ?_)
  obtain ⟨p1, hS, he1, hf1⟩ := hw1
  have hH := hH.frm hf1 (by omega)
  have hF : fr2 w w1 k (k + 3) j (j + 10) := hF.tr (hf1.l _ _)
  rcases q1 : numR t len pl 59 0 5 with _ | r1
  · skip
    refine ww_istore2 C dX5_readShame_8 (by decide) rfl ?_
    refine ww_iload2 C dX5_readShame_9 ?_
    refine ww_iconst C (v := -1) dX5_readShame_10 (by decide) ?_
    refine ww_icmpne C (tgt := 16) dX5_readShame_11 (by decide) (fun c11 => ?_) (fun c11 => ?_)
    · skip
      exact absurd rfl c11
    · skip
      refine ww_iconst C (v := nI 0) dX5_readShame_14 (by decide) ?_
      exact ww_rzq C dX5_readShame_15 rfl ⟨Nat.le_of_ble_eq_true rfl, Nat.le_of_ble_eq_true rfl⟩ (by unfold itK; rw [q1]; rfl) ⟨_, _, (K, M, S, p, X, R, wo, sh, be, b, v, mi), hS, hH, (fun r hr => by unfold itK at hr; rw [q1] at hr; cases hr), hF⟩
  · skip
    have e1 := he1 r1 q1
    subst e1
    have hb1 := numR_le q1
    refine ww_topi (show nrI (some r1) = nI r1.1 from rfl) ?_
    refine ww_istore2 C dX5_readShame_8 (by decide) rfl ?_
    refine ww_iload2 C dX5_readShame_9 ?_
    refine ww_iconst C (v := -1) dX5_readShame_10 (by decide) ?_
    refine ww_icmpne C (tgt := 16) dX5_readShame_11 (by decide) (fun c11 => ?_) (fun c11 => ?_)
    · skip
      refine ww_aload1 C dX5_readShame_16 ?_
      refine ww_getf C fl_X5_71 hH.1 rfl dX5_readShame_17 ?_
      refine ww_iload2 C dX5_readShame_20 ?_
      refine ww_iconst C (v := nI 1) dX5_readShame_21 (by decide) ?_
      refine ww_zastN C hH.2.2.2.2.2.1 (by omega) (by omega) dX5_readShame_22 (kk := fun w2 hw2 => ?_)
      have hF : fr2 w w2 k (k + 3) j (j + 10) := hF.tr (fr.r (fr.up hw2 (by omega) (by omega)) _ _)
      have hS := hS.frm (fr.up (a := j) (b := j + 10) hw2 (by omega) (by omega)) (by omega)
      have hH := hH.setZ hw2 (up_le hH.2.2.2.2.2.2.2.2.2.2.1 (by omega))
      refine ww_iconst C (v := nI 1) dX5_readShame_23 (by decide) ?_
      exact ww_rzq C dX5_readShame_24 rfl ⟨Nat.le_of_ble_eq_true rfl, Nat.le_of_ble_eq_true rfl⟩ (by unfold itK; rw [q1]; rfl) ⟨_, _, (K, M, S, p, X, R, wo, va_up sh r1.1 1, be, b, v, mi), hS, hH, (fun r hr => by unfold itK at hr; rw [q1] at hr; cases hr; exact ⟨rfl, rfl⟩), hF⟩
    · skip
      exact absurd c11 (nr_ne (by omega))
theorem c_readBeats (g : Gx) (n : Nat) (w : Wd) {k len pl j : Nat} {t nm : Nat → Nat} {p b v mi : Nat} {K M S X R wo sh be : Nat → Nat} (hS : SR w k t len pl nm) (hH : HR w j K M S p X R wo sh be b v mi) (hd : k + 3 ≤ j ∨ j + 10 ≤ k) : CT g yX5_readBeats cX5_readBeats 4 (some .boolean) rm_X5_readBeats n n w [.ref k, .ref j] (Rq (.int (bz (itS t len pl (K, M, S, p, X, R, wo, sh, be, b, v, mi)).isSome)) (itQ (itS t len pl (K, M, S, p, X, R, wo, sh, be, b, v, mi)) k j t len w)) := by
  have hF : fr2 w w k (k + 3) j (j + 10) := fun _ _ _ => rfl
  have hlen := hS.2.2.2.1
  refine CT.start [some (.ref k), some (.ref j), none, none] (by decide +kernel) rfl (Nat.le_of_ble_eq_true rfl) (fun x C hnm => ?_)
  refine ww_aload0 C dX5_readBeats_0 ?_
  refine ww_iconst C (v := nI 0) dX5_readBeats_1 (by decide) ?_
  refine ww_iconst C (v := nI 5) dX5_readBeats_2 (by decide) ?_
  refine ww_bipush C (v := nI 44) dX5_readBeats_3 (by decide) ?_
  refine ww_cV3vq C hS.1 rfl (c_number g n w hS (lo := 0) (hi := 5) (sep := 44) (by decide) (by decide) (by decide)) kV_X5_57 ⟨Nat.le_of_ble_eq_true rfl, Nat.le_of_ble_eq_true rfl⟩ ⟨rfl, rfl⟩ ⟨Nat.le_of_ble_eq_true rfl, Nat.le_of_ble_eq_true rfl⟩ (Nat.le_of_ble_eq_true rfl) dX5_readBeats_5 (fun w1 hw1 => ?_)
  obtain ⟨p1, hS, he1, hf1⟩ := hw1
  have hH := hH.frm hf1 (by omega)
  have hF : fr2 w w1 k (k + 3) j (j + 10) := hF.tr (hf1.l _ _)
  rcases q1 : numR t len pl 44 0 5 with _ | r1
  · skip
    refine ww_istore2 C dX5_readBeats_8 (by decide) rfl ?_
    refine ww_iload2 C dX5_readBeats_9 ?_
    refine ww_iconst C (v := -1) dX5_readBeats_10 (by decide) ?_
    refine ww_icmpne C (tgt := 16) dX5_readBeats_11 (by decide) (fun c11 => ?_) (fun c11 => ?_)
    · skip
      exact absurd rfl c11
    · skip
      refine ww_iconst C (v := nI 0) dX5_readBeats_14 (by decide) ?_
      exact ww_rzq C dX5_readBeats_15 rfl ⟨Nat.le_of_ble_eq_true rfl, Nat.le_of_ble_eq_true rfl⟩ (by unfold itS; rw [q1]; rfl) ⟨_, _, (K, M, S, p, X, R, wo, sh, be, b, v, mi), hS, hH, (fun r hr => by unfold itS at hr; rw [q1] at hr; cases hr), hF⟩
  · skip
    have e1 := he1 r1 q1
    subst e1
    have hb1 := numR_le q1
    refine ww_topi (show nrI (some r1) = nI r1.1 from rfl) ?_
    refine ww_istore2 C dX5_readBeats_8 (by decide) rfl ?_
    refine ww_iload2 C dX5_readBeats_9 ?_
    refine ww_iconst C (v := -1) dX5_readBeats_10 (by decide) ?_
    refine ww_icmpne C (tgt := 16) dX5_readBeats_11 (by decide) (fun c11 => ?_) (fun c11 => ?_)
    · skip
      refine ww_aload0 C dX5_readBeats_16 ?_
      refine ww_iconst C (v := nI 1) dX5_readBeats_17 (by decide) ?_
      refine ww_bipush C (v := nI 9) dX5_readBeats_18 (by decide) ?_
      refine ww_bipush C (v := nI 59) dX5_readBeats_20 (by decide) ?_
      refine ww_cV3vq C hS.1 rfl (c_number g n w1 hS (lo := 1) (hi := 9) (sep := 59) (by decide) (by decide) (by decide)) kV_X5_57 ⟨Nat.le_of_ble_eq_true rfl, Nat.le_of_ble_eq_true rfl⟩ ⟨rfl, rfl⟩ ⟨Nat.le_of_ble_eq_true rfl, Nat.le_of_ble_eq_true rfl⟩ (Nat.le_of_ble_eq_true rfl) dX5_readBeats_22 (fun w2 hw2 => ?_)
      obtain ⟨p2, hS, he2, hf2⟩ := hw2
      have hH := hH.frm hf2 (by omega)
      have hF : fr2 w w2 k (k + 3) j (j + 10) := hF.tr (hf2.l _ _)
      rcases q2 : numR t len r1.2 59 1 9 with _ | r2
      · skip
        refine ww_istore3 C dX5_readBeats_25 (by decide) rfl ?_
        refine ww_iload3 C dX5_readBeats_26 ?_
        refine ww_iconst C (v := -1) dX5_readBeats_27 (by decide) ?_
        refine ww_icmpne C (tgt := 33) dX5_readBeats_28 (by decide) (fun c28 => ?_) (fun c28 => ?_)
        · skip
          exact absurd rfl c28
        · skip
          refine ww_iconst C (v := nI 0) dX5_readBeats_31 (by decide) ?_
          exact ww_rzq C dX5_readBeats_32 rfl ⟨Nat.le_of_ble_eq_true rfl, Nat.le_of_ble_eq_true rfl⟩ (by unfold itS; rw [q1]; dsimp only; rw [q2]; rfl) ⟨_, _, (K, M, S, p, X, R, wo, sh, be, b, v, mi), hS, hH, (fun r hr => by unfold itS at hr; rw [q1] at hr; dsimp only at hr; rw [q2] at hr; cases hr), hF⟩
      · skip
        have e2 := he2 r2 q2
        subst e2
        have hb2 := numR_le q2
        refine ww_topi (show nrI (some r2) = nI r2.1 from rfl) ?_
        refine ww_istore3 C dX5_readBeats_25 (by decide) rfl ?_
        refine ww_iload3 C dX5_readBeats_26 ?_
        refine ww_iconst C (v := -1) dX5_readBeats_27 (by decide) ?_
        refine ww_icmpne C (tgt := 33) dX5_readBeats_28 (by decide) (fun c28 => ?_) (fun c28 => ?_)
        · skip
          refine ww_aload1 C dX5_readBeats_33 ?_
          refine ww_getf C fl_X5_75 hH.1 rfl dX5_readBeats_34 ?_
          refine ww_iload2 C dX5_readBeats_37 ?_
          refine ww_iload3 C dX5_readBeats_38 ?_
          refine ww_iastN C hH.2.2.2.2.2.2.1 (by omega) dX5_readBeats_39 (kk := fun w3 hw3 => ?_)
          have hF : fr2 w w3 k (k + 3) j (j + 10) := hF.tr (fr.r (fr.up hw3 (by omega) (by omega)) _ _)
          have hS := hS.frm (fr.up (a := j) (b := j + 10) hw3 (by omega) (by omega)) (by omega)
          have hH := hH.setB hw3 (up_le hH.2.2.2.2.2.2.2.2.2.2.2.1 (by omega))
          refine ww_iconst C (v := nI 1) dX5_readBeats_40 (by decide) ?_
          exact ww_rzq C dX5_readBeats_41 rfl ⟨Nat.le_of_ble_eq_true rfl, Nat.le_of_ble_eq_true rfl⟩ (by unfold itS; rw [q1]; dsimp only; rw [q2]; rfl) ⟨_, _, (K, M, S, p, X, R, wo, sh, va_up be r1.1 r2.1, b, v, mi), hS, hH, (fun r hr => by unfold itS at hr; rw [q1] at hr; dsimp only at hr; rw [q2] at hr; cases hr; exact ⟨rfl, rfl⟩), hF⟩
        · skip
          exact absurd c28 (nr_ne (by omega))
    · skip
      exact absurd c11 (nr_ne (by omega))
theorem c_readBreath (g : Gx) (n : Nat) (w : Wd) {k len pl j : Nat} {t nm : Nat → Nat} {p b v mi : Nat} {K M S X R wo sh be : Nat → Nat} (hS : SR w k t len pl nm) (hH : HR w j K M S p X R wo sh be b v mi) (hd : k + 3 ≤ j ∨ j + 10 ≤ k) : CT g yX5_readBreath cX5_readBreath 4 (some .boolean) rm_X5_readBreath n n w [.ref k, .ref j] (Rq (.int (bz (itB t len pl (K, M, S, p, X, R, wo, sh, be, b, v, mi)).isSome)) (itQ (itB t len pl (K, M, S, p, X, R, wo, sh, be, b, v, mi)) k j t len w)) := by
  have hF : fr2 w w k (k + 3) j (j + 10) := fun _ _ _ => rfl
  have hlen := hS.2.2.2.1
  refine CT.start [some (.ref k), some (.ref j), none, none] (by decide +kernel) rfl (Nat.le_of_ble_eq_true rfl) (fun x C hnm => ?_)
  refine ww_aload0 C dX5_readBreath_0 ?_
  refine ww_iconst C (v := nI 1) dX5_readBreath_1 (by decide) ?_
  refine ww_bipush C (v := nI 12) dX5_readBreath_2 (by decide) ?_
  refine ww_bipush C (v := nI 44) dX5_readBreath_4 (by decide) ?_
  refine ww_cV3vq C hS.1 rfl (c_number g n w hS (lo := 1) (hi := 12) (sep := 44) (by decide) (by decide) (by decide)) kV_X5_57 ⟨Nat.le_of_ble_eq_true rfl, Nat.le_of_ble_eq_true rfl⟩ ⟨rfl, rfl⟩ ⟨Nat.le_of_ble_eq_true rfl, Nat.le_of_ble_eq_true rfl⟩ (Nat.le_of_ble_eq_true rfl) dX5_readBreath_6 (fun w1 hw1 => ?_)
  obtain ⟨p1, hS, he1, hf1⟩ := hw1
  have hH := hH.frm hf1 (by omega)
  have hF : fr2 w w1 k (k + 3) j (j + 10) := hF.tr (hf1.l _ _)
  rcases q1 : numR t len pl 44 1 12 with _ | r1
  · skip
    refine ww_istore2 C dX5_readBreath_9 (by decide) rfl ?_
    refine ww_iload2 C dX5_readBreath_10 ?_
    refine ww_iconst C (v := -1) dX5_readBreath_11 (by decide) ?_
    refine ww_icmpne C (tgt := 17) dX5_readBreath_12 (by decide) (fun c12 => ?_) (fun c12 => ?_)
    · skip
      exact absurd rfl c12
    · skip
      refine ww_iconst C (v := nI 0) dX5_readBreath_15 (by decide) ?_
      exact ww_rzq C dX5_readBreath_16 rfl ⟨Nat.le_of_ble_eq_true rfl, Nat.le_of_ble_eq_true rfl⟩ (by unfold itB; rw [q1]; rfl) ⟨_, _, (K, M, S, p, X, R, wo, sh, be, b, v, mi), hS, hH, (fun r hr => by unfold itB at hr; rw [q1] at hr; cases hr), hF⟩
  · skip
    have e1 := he1 r1 q1
    subst e1
    have hb1 := numR_le q1
    refine ww_topi (show nrI (some r1) = nI r1.1 from rfl) ?_
    refine ww_istore2 C dX5_readBreath_9 (by decide) rfl ?_
    refine ww_iload2 C dX5_readBreath_10 ?_
    refine ww_iconst C (v := -1) dX5_readBreath_11 (by decide) ?_
    refine ww_icmpne C (tgt := 17) dX5_readBreath_12 (by decide) (fun c12 => ?_) (fun c12 => ?_)
    · skip
      refine ww_aload0 C dX5_readBreath_17 ?_
      refine ww_iconst C (v := nI 0) dX5_readBreath_18 (by decide) ?_
      refine ww_bipush C (v := nI 20) dX5_readBreath_19 (by decide) ?_
      refine ww_bipush C (v := nI 59) dX5_readBreath_21 (by decide) ?_
      refine ww_cV3vq C hS.1 rfl (c_number g n w1 hS (lo := 0) (hi := 20) (sep := 59) (by decide) (by decide) (by decide)) kV_X5_57 ⟨Nat.le_of_ble_eq_true rfl, Nat.le_of_ble_eq_true rfl⟩ ⟨rfl, rfl⟩ ⟨Nat.le_of_ble_eq_true rfl, Nat.le_of_ble_eq_true rfl⟩ (Nat.le_of_ble_eq_true rfl) dX5_readBreath_23 (fun w2 hw2 => ?_)
      obtain ⟨p2, hS, he2, hf2⟩ := hw2
      have hH := hH.frm hf2 (by omega)
      have hF : fr2 w w2 k (k + 3) j (j + 10) := hF.tr (hf2.l _ _)
      rcases q2 : numR t len r1.2 59 0 20 with _ | r2
      · skip
        refine ww_istore3 C dX5_readBreath_26 (by decide) rfl ?_
        refine ww_iload3 C dX5_readBreath_27 ?_
        refine ww_iconst C (v := -1) dX5_readBreath_28 (by decide) ?_
        refine ww_icmpne C (tgt := 34) dX5_readBreath_29 (by decide) (fun c29 => ?_) (fun c29 => ?_)
        · skip
          exact absurd rfl c29
        · skip
          refine ww_iconst C (v := nI 0) dX5_readBreath_32 (by decide) ?_
          exact ww_rzq C dX5_readBreath_33 rfl ⟨Nat.le_of_ble_eq_true rfl, Nat.le_of_ble_eq_true rfl⟩ (by unfold itB; rw [q1]; dsimp only; rw [q2]; rfl) ⟨_, _, (K, M, S, p, X, R, wo, sh, be, b, v, mi), hS, hH, (fun r hr => by unfold itB at hr; rw [q1] at hr; dsimp only at hr; rw [q2] at hr; cases hr), hF⟩
      · skip
        have e2 := he2 r2 q2
        subst e2
        have hb2 := numR_le q2
        refine ww_topi (show nrI (some r2) = nI r2.1 from rfl) ?_
        refine ww_istore3 C dX5_readBreath_26 (by decide) rfl ?_
        refine ww_iload3 C dX5_readBreath_27 ?_
        refine ww_iconst C (v := -1) dX5_readBreath_28 (by decide) ?_
        refine ww_icmpne C (tgt := 34) dX5_readBreath_29 (by decide) (fun c29 => ?_) (fun c29 => ?_)
        · skip
          refine ww_aload1 C dX5_readBreath_34 ?_
          refine ww_iload2 C dX5_readBreath_35 ?_
          refine ww_putI C fl_X5_78 hH.1 (Nat.le_of_ble_eq_true rfl) rfl dX5_readBreath_36 (fun w3 hw3 => ?_)
          have hF : fr2 w w3 k (k + 3) j (j + 10) := hF.tr (fr.r (fr.up hw3 (by omega) (by omega)) _ _)
          have hS := hS.frm (fr.up (a := j) (b := j + 10) hw3 (by omega) (by omega)) (by omega)
          have hbv := hH.2.2.2.2.2.2.2.2.2.2.2.2
          have hH := hH.setO hw3 (by omega)
          refine ww_aload1 C dX5_readBreath_39 ?_
          refine ww_iload3 C dX5_readBreath_40 ?_
          refine ww_putI C fl_X5_81 hH.1 (Nat.le_of_ble_eq_true rfl) rfl dX5_readBreath_41 (fun w4 hw4 => ?_)
          have hF : fr2 w w4 k (k + 3) j (j + 10) := hF.tr (fr.r (fr.up hw4 (by omega) (by omega)) _ _)
          have hS := hS.frm (fr.up (a := j) (b := j + 10) hw4 (by omega) (by omega)) (by omega)
          have hbv := hH.2.2.2.2.2.2.2.2.2.2.2.2
          have hH := hH.setO hw4 (by omega)
          refine ww_iconst C (v := nI 1) dX5_readBreath_44 (by decide) ?_
          exact ww_rzq C dX5_readBreath_45 rfl ⟨Nat.le_of_ble_eq_true rfl, Nat.le_of_ble_eq_true rfl⟩ (by unfold itB; rw [q1]; dsimp only; rw [q2]; rfl) ⟨_, _, (K, M, S, p, X, R, wo, sh, be, r1.1, r2.1, mi), hS, hH, (fun r hr => by unfold itB at hr; rw [q1] at hr; dsimp only at hr; rw [q2] at hr; cases hr; exact ⟨rfl, rfl⟩), hF⟩
        · skip
          exact absurd c29 (nr_ne (by omega))
    · skip
      exact absurd c12 (nr_ne (by omega))
theorem c_readMisheard (g : Gx) (n : Nat) (w : Wd) {k len pl j : Nat} {t nm : Nat → Nat} {p b v mi : Nat} {K M S X R wo sh be : Nat → Nat} (hS : SR w k t len pl nm) (hH : HR w j K M S p X R wo sh be b v mi) (hd : k + 3 ≤ j ∨ j + 10 ≤ k) : CT g yX5_readMisheard cX5_readMisheard 3 (some .boolean) rm_X5_readMisheard n n w [.ref k, .ref j] (Rq (.int (bz (itM t len pl (K, M, S, p, X, R, wo, sh, be, b, v, mi)).isSome)) (itQ (itM t len pl (K, M, S, p, X, R, wo, sh, be, b, v, mi)) k j t len w)) := by
  have hF : fr2 w w k (k + 3) j (j + 10) := fun _ _ _ => rfl
  have hlen := hS.2.2.2.1
  refine CT.start [some (.ref k), some (.ref j), none] (by decide +kernel) rfl (Nat.le_of_ble_eq_true rfl) (fun x C hnm => ?_)
  refine ww_aload0 C dX5_readMisheard_0 ?_
  refine ww_iconst C (v := nI 0) dX5_readMisheard_1 (by decide) ?_
  refine ww_bipush C (v := nI 9) dX5_readMisheard_2 (by decide) ?_
  refine ww_bipush C (v := nI 59) dX5_readMisheard_4 (by decide) ?_
  refine ww_cV3vq C hS.1 rfl (c_number g n w hS (lo := 0) (hi := 9) (sep := 59) (by decide) (by decide) (by decide)) kV_X5_57 ⟨Nat.le_of_ble_eq_true rfl, Nat.le_of_ble_eq_true rfl⟩ ⟨rfl, rfl⟩ ⟨Nat.le_of_ble_eq_true rfl, Nat.le_of_ble_eq_true rfl⟩ (Nat.le_of_ble_eq_true rfl) dX5_readMisheard_6 (fun w1 hw1 => ?_)
  obtain ⟨p1, hS, he1, hf1⟩ := hw1
  have hH := hH.frm hf1 (by omega)
  have hF : fr2 w w1 k (k + 3) j (j + 10) := hF.tr (hf1.l _ _)
  rcases q1 : numR t len pl 59 0 9 with _ | r1
  · skip
    refine ww_istore2 C dX5_readMisheard_9 (by decide) rfl ?_
    refine ww_iload2 C dX5_readMisheard_10 ?_
    refine ww_iconst C (v := -1) dX5_readMisheard_11 (by decide) ?_
    refine ww_icmpne C (tgt := 17) dX5_readMisheard_12 (by decide) (fun c12 => ?_) (fun c12 => ?_)
    · skip
      exact absurd rfl c12
    · skip
      refine ww_iconst C (v := nI 0) dX5_readMisheard_15 (by decide) ?_
      exact ww_rzq C dX5_readMisheard_16 rfl ⟨Nat.le_of_ble_eq_true rfl, Nat.le_of_ble_eq_true rfl⟩ (by unfold itM; rw [q1]; rfl) ⟨_, _, (K, M, S, p, X, R, wo, sh, be, b, v, mi), hS, hH, (fun r hr => by unfold itM at hr; rw [q1] at hr; cases hr), hF⟩
  · skip
    have e1 := he1 r1 q1
    subst e1
    have hb1 := numR_le q1
    refine ww_topi (show nrI (some r1) = nI r1.1 from rfl) ?_
    refine ww_istore2 C dX5_readMisheard_9 (by decide) rfl ?_
    refine ww_iload2 C dX5_readMisheard_10 ?_
    refine ww_iconst C (v := -1) dX5_readMisheard_11 (by decide) ?_
    refine ww_icmpne C (tgt := 17) dX5_readMisheard_12 (by decide) (fun c12 => ?_) (fun c12 => ?_)
    · skip
      refine ww_aload1 C dX5_readMisheard_17 ?_
      refine ww_iload2 C dX5_readMisheard_18 ?_
      refine ww_putI C fl_X5_84 hH.1 (Nat.le_of_ble_eq_true rfl) rfl dX5_readMisheard_19 (fun w2 hw2 => ?_)
      have hF : fr2 w w2 k (k + 3) j (j + 10) := hF.tr (fr.r (fr.up hw2 (by omega) (by omega)) _ _)
      have hS := hS.frm (fr.up (a := j) (b := j + 10) hw2 (by omega) (by omega)) (by omega)
      have hbv := hH.2.2.2.2.2.2.2.2.2.2.2.2
      have hH := hH.setO hw2 (by omega)
      refine ww_iconst C (v := nI 1) dX5_readMisheard_22 (by decide) ?_
      exact ww_rzq C dX5_readMisheard_23 rfl ⟨Nat.le_of_ble_eq_true rfl, Nat.le_of_ble_eq_true rfl⟩ (by unfold itM; rw [q1]; rfl) ⟨_, _, (K, M, S, p, X, R, wo, sh, be, b, v, r1.1), hS, hH, (fun r hr => by unfold itM at hr; rw [q1] at hr; cases hr; exact ⟨rfl, rfl⟩), hF⟩
    · skip
      exact absurd c12 (nr_ne (by omega))
theorem c_readPerson (g : Gx) (n : Nat) (w : Wd) {k len pl j : Nat} {t nm : Nat → Nat} {p b v mi : Nat} {K M S X R wo sh be : Nat → Nat} (hS : SR w k t len pl nm) (hH : HR w j K M S p X R wo sh be b v mi) (hd : k + 3 ≤ j ∨ j + 10 ≤ k) : CT g yX5_readPerson cX5_readPerson 6 (some .boolean) rm_X5_readPerson n n w [.ref k, .ref j] (Rq (.int (bz (itP t len pl (K, M, S, p, X, R, wo, sh, be, b, v, mi)).isSome)) (itQ (itP t len pl (K, M, S, p, X, R, wo, sh, be, b, v, mi)) k j t len w)) := by
  have hF : fr2 w w k (k + 3) j (j + 10) := fun _ _ _ => rfl
  have hlen := hS.2.2.2.1
  refine CT.start [some (.ref k), some (.ref j), none, none, none, none] (by decide +kernel) rfl (Nat.le_of_ble_eq_true rfl) (fun x C hnm => ?_)
  refine ww_aload0 C dX5_readPerson_0 ?_
  refine ww_iconst C (v := nI 0) dX5_readPerson_1 (by decide) ?_
  refine ww_iconst C (v := nI 3) dX5_readPerson_2 (by decide) ?_
  refine ww_bipush C (v := nI 44) dX5_readPerson_3 (by decide) ?_
  refine ww_cV3vq C hS.1 rfl (c_number g n w hS (lo := 0) (hi := 3) (sep := 44) (by decide) (by decide) (by decide)) kV_X5_57 ⟨Nat.le_of_ble_eq_true rfl, Nat.le_of_ble_eq_true rfl⟩ ⟨rfl, rfl⟩ ⟨Nat.le_of_ble_eq_true rfl, Nat.le_of_ble_eq_true rfl⟩ (Nat.le_of_ble_eq_true rfl) dX5_readPerson_5 (fun w1 hw1 => ?_)
  obtain ⟨p1, hS, he1, hf1⟩ := hw1
  have hH := hH.frm hf1 (by omega)
  have hF : fr2 w w1 k (k + 3) j (j + 10) := hF.tr (hf1.l _ _)
  rcases q1 : numR t len pl 44 0 3 with _ | r1
  · skip
    refine ww_istore2 C dX5_readPerson_8 (by decide) rfl ?_
    refine ww_iload2 C dX5_readPerson_9 ?_
    refine ww_iconst C (v := -1) dX5_readPerson_10 (by decide) ?_
    refine ww_icmpne C (tgt := 16) dX5_readPerson_11 (by decide) (fun c11 => ?_) (fun c11 => ?_)
    · skip
      exact absurd rfl c11
    · skip
      refine ww_iconst C (v := nI 0) dX5_readPerson_14 (by decide) ?_
      exact ww_rzq C dX5_readPerson_15 rfl ⟨Nat.le_of_ble_eq_true rfl, Nat.le_of_ble_eq_true rfl⟩ (by unfold itP; rw [q1]; rfl) ⟨_, _, (K, M, S, p, X, R, wo, sh, be, b, v, mi), hS, hH, (fun r hr => by unfold itP at hr; rw [q1] at hr; cases hr), hF⟩
  · skip
    have e1 := he1 r1 q1
    subst e1
    have hb1 := numR_le q1
    refine ww_topi (show nrI (some r1) = nI r1.1 from rfl) ?_
    refine ww_istore2 C dX5_readPerson_8 (by decide) rfl ?_
    refine ww_iload2 C dX5_readPerson_9 ?_
    refine ww_iconst C (v := -1) dX5_readPerson_10 (by decide) ?_
    refine ww_icmpne C (tgt := 16) dX5_readPerson_11 (by decide) (fun c11 => ?_) (fun c11 => ?_)
    · skip
      refine ww_aload0 C dX5_readPerson_16 ?_
      refine ww_cV0vq C hS.1 rfl (c_readName g n w1 hS) kV_X5_61 ⟨Nat.le_of_ble_eq_true rfl, Nat.le_of_ble_eq_true rfl⟩ ⟨rfl, rfl⟩ ⟨Nat.le_of_ble_eq_true rfl, Nat.le_of_ble_eq_true rfl⟩ (Nat.le_of_ble_eq_true rfl) dX5_readPerson_17 (fun w2 hw2 => ?_)
      obtain ⟨p2, nm2, hS, he2, hf2⟩ := hw2
      have hH := hH.frm hf2 (by omega)
      have hF : fr2 w w2 k (k + 3) j (j + 10) := hF.tr (hf2.l _ _)
      rcases q2 : namR t len r1.2 with _ | r2
      · skip
        refine ww_istore3 C dX5_readPerson_20 (by decide) rfl ?_
        refine ww_iload3 C dX5_readPerson_21 ?_
        refine ww_iconst C (v := -1) dX5_readPerson_22 (by decide) ?_
        refine ww_icmpne C (tgt := 28) dX5_readPerson_23 (by decide) (fun c23 => ?_) (fun c23 => ?_)
        · skip
          exact absurd rfl c23
        · skip
          refine ww_iconst C (v := nI 0) dX5_readPerson_26 (by decide) ?_
          exact ww_rzq C dX5_readPerson_27 rfl ⟨Nat.le_of_ble_eq_true rfl, Nat.le_of_ble_eq_true rfl⟩ (by unfold itP; rw [q1]; dsimp only; rw [q2]; rfl) ⟨_, _, (K, M, S, p, X, R, wo, sh, be, b, v, mi), hS, hH, (fun r hr => by unfold itP at hr; rw [q1] at hr; dsimp only at hr; rw [q2] at hr; cases hr), hF⟩
      · skip
        obtain ⟨e2, hz1, hz6, hnm⟩ := he2 r2 q2
        subst e2
        refine ww_topi (show nrI (some r2) = nI r2.1 from rfl) ?_
        refine ww_istore3 C dX5_readPerson_20 (by decide) rfl ?_
        refine ww_iload3 C dX5_readPerson_21 ?_
        refine ww_iconst C (v := -1) dX5_readPerson_22 (by decide) ?_
        refine ww_icmpne C (tgt := 28) dX5_readPerson_23 (by decide) (fun c23 => ?_) (fun c23 => ?_)
        · skip
          refine ww_aload0 C dX5_readPerson_28 ?_
          refine ww_iconst C (v := nI 0) dX5_readPerson_29 (by decide) ?_
          refine ww_bipush C (v := nI 99) dX5_readPerson_30 (by decide) ?_
          refine ww_bipush C (v := nI 44) dX5_readPerson_32 (by decide) ?_
          refine ww_cV3vq C hS.1 rfl (c_number g n w2 hS (lo := 0) (hi := 99) (sep := 44) (by decide) (by decide) (by decide)) kV_X5_57 ⟨Nat.le_of_ble_eq_true rfl, Nat.le_of_ble_eq_true rfl⟩ ⟨rfl, rfl⟩ ⟨Nat.le_of_ble_eq_true rfl, Nat.le_of_ble_eq_true rfl⟩ (Nat.le_of_ble_eq_true rfl) dX5_readPerson_34 (fun w3 hw3 => ?_)
          obtain ⟨p3, hS, he3, hf3⟩ := hw3
          have hH := hH.frm hf3 (by omega)
          have hF : fr2 w w3 k (k + 3) j (j + 10) := hF.tr (hf3.l _ _)
          rcases q3 : numR t len r2.2 44 0 99 with _ | r3
          · skip
            refine ww_istore4 C dX5_readPerson_37 (by decide) rfl ?_
            refine ww_iload4 C dX5_readPerson_39 ?_
            refine ww_iconst C (v := -1) dX5_readPerson_41 (by decide) ?_
            refine ww_icmpne C (tgt := 47) dX5_readPerson_42 (by decide) (fun c42 => ?_) (fun c42 => ?_)
            · skip
              exact absurd rfl c42
            · skip
              refine ww_iconst C (v := nI 0) dX5_readPerson_45 (by decide) ?_
              exact ww_rzq C dX5_readPerson_46 rfl ⟨Nat.le_of_ble_eq_true rfl, Nat.le_of_ble_eq_true rfl⟩ (by unfold itP; rw [q1]; dsimp only; rw [q2]; dsimp only; rw [q3]; rfl) ⟨_, _, (K, M, S, p, X, R, wo, sh, be, b, v, mi), hS, hH, (fun r hr => by unfold itP at hr; rw [q1] at hr; dsimp only at hr; rw [q2] at hr; dsimp only at hr; rw [q3] at hr; cases hr), hF⟩
          · skip
            have e3 := he3 r3 q3
            subst e3
            have hb3 := numR_le q3
            refine ww_topi (show nrI (some r3) = nI r3.1 from rfl) ?_
            refine ww_istore4 C dX5_readPerson_37 (by decide) rfl ?_
            refine ww_iload4 C dX5_readPerson_39 ?_
            refine ww_iconst C (v := -1) dX5_readPerson_41 (by decide) ?_
            refine ww_icmpne C (tgt := 47) dX5_readPerson_42 (by decide) (fun c42 => ?_) (fun c42 => ?_)
            · skip
              refine ww_aload0 C dX5_readPerson_47 ?_
              refine ww_iconst C (v := nI 0) dX5_readPerson_48 (by decide) ?_
              refine ww_bipush C (v := nI 9) dX5_readPerson_49 (by decide) ?_
              refine ww_bipush C (v := nI 59) dX5_readPerson_51 (by decide) ?_
              refine ww_cV3vq C hS.1 rfl (c_number g n w3 hS (lo := 0) (hi := 9) (sep := 59) (by decide) (by decide) (by decide)) kV_X5_57 ⟨Nat.le_of_ble_eq_true rfl, Nat.le_of_ble_eq_true rfl⟩ ⟨rfl, rfl⟩ ⟨Nat.le_of_ble_eq_true rfl, Nat.le_of_ble_eq_true rfl⟩ (Nat.le_of_ble_eq_true rfl) dX5_readPerson_53 (fun w4 hw4 => ?_)
              obtain ⟨p4, hS, he4, hf4⟩ := hw4
              have hH := hH.frm hf4 (by omega)
              have hF : fr2 w w4 k (k + 3) j (j + 10) := hF.tr (hf4.l _ _)
              rcases q4 : numR t len r3.2 59 0 9 with _ | r4
              · skip
                refine ww_istore5 C dX5_readPerson_56 (by decide) rfl ?_
                refine ww_iload5 C dX5_readPerson_58 ?_
                refine ww_iconst C (v := -1) dX5_readPerson_60 (by decide) ?_
                refine ww_icmpeq C (tgt := 85) dX5_readPerson_61 (by decide) (fun c61 => ?_) (fun c61 => ?_)
                · skip
                  refine ww_iconst C (v := nI 0) dX5_readPerson_85 (by decide) ?_
                  exact ww_rzq C dX5_readPerson_86 rfl ⟨Nat.le_of_ble_eq_true rfl, Nat.le_of_ble_eq_true rfl⟩ (by unfold itP; rw [q1]; dsimp only; rw [q2]; dsimp only; rw [q3]; dsimp only; rw [q4]; rfl) ⟨_, _, (K, M, S, p, X, R, wo, sh, be, b, v, mi), hS, hH, (fun r hr => by unfold itP at hr; rw [q1] at hr; dsimp only at hr; rw [q2] at hr; dsimp only at hr; rw [q3] at hr; dsimp only at hr; rw [q4] at hr; cases hr), hF⟩
                · skip
                  exact absurd rfl c61
              · skip
                have e4 := he4 r4 q4
                subst e4
                have hb4 := numR_le q4
                refine ww_topi (show nrI (some r4) = nI r4.1 from rfl) ?_
                refine ww_istore5 C dX5_readPerson_56 (by decide) rfl ?_
                refine ww_iload5 C dX5_readPerson_58 ?_
                refine ww_iconst C (v := -1) dX5_readPerson_60 (by decide) ?_
                refine ww_icmpeq C (tgt := 85) dX5_readPerson_61 (by decide) (fun c61 => ?_) (fun c61 => ?_)
                · skip
                  exact absurd c61 (nr_ne (by omega))
                · skip
                  refine ww_aload1 C dX5_readPerson_64 ?_
                  refine ww_iload2 C dX5_readPerson_65 ?_
                  refine ww_aload0 C dX5_readPerson_66 ?_
                  refine ww_getf C fl_X5_22 hS.1 rfl dX5_readPerson_67 ?_
                  refine ww_iload3 C dX5_readPerson_70 ?_
                  refine ww_iload4 C dX5_readPerson_71 ?_
                  refine ww_iload5 C dX5_readPerson_73 ?_
                  by_cases hp8 : p < 8
                  · refine ww_cV5vq C hH.1 rfl (c_settle g n w4 hH (r := k + 2) (len := 6) (F := nm2) hp8 (by omega) (Or.inr hS.2.2.1) (by omega) (by omega) (by decide) (fun q hq => by rw [hnm q hq]; have := hS.2.2.2.2.2.2 q; rw [hnm q hq] at this; exact this) (by omega) (by omega)) kV_X5_64 ⟨Nat.le_of_ble_eq_true rfl, Nat.le_of_ble_eq_true rfl⟩ ⟨rfl, rfl⟩ ⟨Nat.le_of_ble_eq_true rfl, Nat.le_of_ble_eq_true rfl⟩ (Nat.le_of_ble_eq_true rfl) dX5_readPerson_75 (fun w9 hw9 => ?_)
                    obtain ⟨hH, hf9⟩ := hw9
                    have hS := hS.frm hf9 (by omega)
                    have hF : fr2 w w9 k (k + 3) j (j + 10) := hF.tr (hf9.r _ _)
                    refine ww_ifeqB C (tgt := 85) dX5_readPerson_78 (by decide) (fun c78 => ?_) (fun c78 => ?_)
                    · cases c78
                    · refine ww_iconst C (v := nI 1) dX5_readPerson_81 (by decide) ?_
                      refine ww_goto C (tgt := 86) dX5_readPerson_82 (by decide) ?_
                      exact ww_rzq C dX5_readPerson_86 rfl ⟨Nat.le_of_ble_eq_true rfl, Nat.le_of_ble_eq_true rfl⟩ (by unfold itP; rw [q1]; dsimp only; rw [q2]; dsimp only; rw [q3]; dsimp only; rw [q4]; dsimp only; rw [if_pos hp8]; rfl) ⟨_, _, (va_up K p r1.1, va_up M p r2.1, enS S p (fun j => t (r1.2 + j) - 48) r2.1, p + 1, va_up X p r3.1, va_up R p r4.1, wo, sh, be, b, v, mi), hS, by rw [enS_c hnm] at hH; exact hH, (fun r hr => by unfold itP at hr; rw [q1] at hr; dsimp only at hr; rw [q2] at hr; dsimp only at hr; rw [q3] at hr; dsimp only at hr; rw [q4] at hr; dsimp only at hr; rw [if_pos hp8] at hr; cases hr; exact ⟨rfl, rfl⟩), hF⟩
                  · refine ww_cV5v C hH.1 rfl (c_settleF g n w4 hH (r := k + 2) hp8) kV_X5_64 ⟨Nat.le_of_ble_eq_true rfl, Nat.le_of_ble_eq_true rfl⟩ ⟨rfl, rfl⟩ ⟨Nat.le_of_ble_eq_true rfl, Nat.le_of_ble_eq_true rfl⟩ (Nat.le_of_ble_eq_true rfl) dX5_readPerson_75 ?_
                    refine ww_ifeqB C (tgt := 85) dX5_readPerson_78 (by decide) (fun c78 => ?_) (fun c78 => ?_)
                    · refine ww_iconst C (v := nI 0) dX5_readPerson_85 (by decide) ?_
                      exact ww_rzq C dX5_readPerson_86 rfl ⟨Nat.le_of_ble_eq_true rfl, Nat.le_of_ble_eq_true rfl⟩ (by unfold itP; rw [q1]; dsimp only; rw [q2]; dsimp only; rw [q3]; dsimp only; rw [q4]; dsimp only; rw [if_neg hp8]; rfl) ⟨_, _, (K, M, S, p, X, R, wo, sh, be, b, v, mi), hS, hH, (fun r hr => by unfold itP at hr; rw [q1] at hr; dsimp only at hr; rw [q2] at hr; dsimp only at hr; rw [q3] at hr; dsimp only at hr; rw [q4] at hr; dsimp only at hr; rw [if_neg hp8] at hr; cases hr), hF⟩
                    · cases c78
            · skip
              exact absurd c42 (nr_ne (by omega))
        · skip
          exact absurd c23 (nr_ne (by omega))
    · skip
      exact absurd c11 (nr_ne (by omega))
