theorem cpy_all (F H : Nat → Int32) {m : Nat} : ∀ j, j < m → va_cpy F H 0 0 m j = F j := fun j h => by unfold va_cpy; rw [if_pos ⟨by omega, by omega⟩, Nat.sub_zero, Nat.zero_add]
theorem ofFn_cong {m : Nat} {f f2 : Nat → Value} (h : ∀ j, j < m → f j = f2 j) (c : ClassId) : arrV c m f = arrV c m f2 := by
  unfold arrV
  congr 2
  funext j
  exact h j.val j.isLt
theorem HW.eqv {g : Gx} {n : Nat} {w w1 : Wd} {H : Heap} (h : HW g n w H) (he : ∀ k, w1 k = w k ∨ ∃ t m f f1, w k = ar t m f ∧ w1 k = ar t m f1 ∧ (∀ j, j < m → f1 j = f j) ∧ ¬ t = 7) : HW g n w1 H := by
  refine ⟨h.1, h.2.1, fun k hk => ?_, fun k hk => ?_⟩
  · rcases he k with e | ⟨t, m, f, f1, e, e1, e2, -⟩
    · rw [e]; exact h.2.2.1 k hk
    · have := h.2.2.1 k hk
      rw [e] at this
      rw [e1]
      have h1 : H[g.2.2.2.1 + k]? = some (arrV (g.2.2.1 t) m (fun j => .int (f j))) := this
      show H[g.2.2.2.1 + k]? = some (arrV (g.2.2.1 t) m (fun j => .int (f1 j)))
      rw [h1]
      exact congrArg some (ofFn_cong (fun j hj => by rw [e2 j hj]) _)
  · rcases he k with e | ⟨t, m, f, f1, e, e1, e2, e3⟩
    · rw [e]; exact h.2.2.2 k hk
    · exact absurd (e.symm.trans (h.2.2.2 k hk)) (ar_dead e3)
theorem WW.eqv {g : Gx} {x : Cx} {nL cs ss n : Nat} {w w1 : Wd} {pc : Nat} {L : List (Option Value)} {st : List Value} (k : WW g x nL cs ss n w1 pc L st) (he : ∀ k, w1 k = w k ∨ ∃ t m f f1, w k = ar t m f ∧ w1 k = ar t m f1 ∧ (∀ j, j < m → f1 j = f j) ∧ ¬ t = 7) : WW g x nL cs ss n w pc L st := fun H locs ls hH hS hl => k H locs ls (hH.eqv he) hS hl
theorem up_le {f : Nat → Nat} {b i v : Nat} (h : ∀ j, f j ≤ b) (hv : v ≤ b) : ∀ j, va_up f i v j ≤ b := fun j => by
  unfold va_up
  split
  · exact hv
  · exact h j
theorem ww_copyN {g : Gx} {x : Cx} {cc : ByteArray} {nL : Nat} {own : String} {rt : Option FieldType} {rm : Room} {n' : Nat} {Post : Option Value → Wd → Prop} {cs ss n : Nat} {w : Wd} {pc : Nat} {L : List (Option Value)} {st : List Value} (C : Ck g x cc nL own rt rm n' Post) {idx k j m : Nat} {F F2 : Nat → Nat} (hl1 : Cond.methodLink own idx arraycopyName ∈ TS) (hk : w k = ai m F) (hj : w j = ai m F2) (hm : m ≤ 100000)
    (hfr : 1 ≤ rm.frames) (hlo : (st.map fun v => v.category).sum + 18 ≤ rm.locals) (hd : decode cc pc = .ok (.invokestatic idx, 3)) (kk : ∀ w1, w1 = va_up w j (ai m F) → WW g x nL cs ss n w1 (pc + 3) L st) : WW g x nL cs ss n w pc L (.int (nI m) :: .int (nI 0) :: .ref j :: .int (nI 0) :: .ref k :: st) := by
  have hc : (nI m).toNatClampNeg = m := nI_clamp (by omega)
  refine ww_copy (N := nI m) C hl1 kj_copy_n kj_copy_s kj_copy_i hk hj (nI_pos (by omega)) (by rw [hc]; exact Nat.le_refl _) (by rw [hc]; exact Nat.le_refl _) hfr hlo hd ?_
  rw [hc]
  refine WW.eqv (kk _ rfl) (fun i => ?_)
  by_cases h : i = j
  · subst h
    refine Or.inr ⟨0, m, _, _, va_upd_self _ _ _, va_upd_self _ _ _, fun q hq => (cpy_all (fun j => nI (F j)) (fun j => nI (F2 j)) q hq).symm, by decide⟩
  · rw [va_upd_ne _ _ h, va_upd_ne _ _ h]
    exact Or.inl rfl
/-- nothing outside a block has changed -/
def fr (w w1 : Wd) (a b : Nat) : Prop := ∀ j, (j < a ∨ b ≤ j) → w1 j = w j
theorem fr.rf {w : Wd} {a b : Nat} : fr w w a b := fun _ _ => rfl
theorem fr.tr {w w1 w2 : Wd} {a b : Nat} (h : fr w w1 a b) (h2 : fr w1 w2 a b) : fr w w2 a b := fun j hj => (h2 j hj).trans (h j hj)
theorem fr.wide {w w1 : Wd} {a b c d : Nat} (h : fr w w1 a b) (h1 : c ≤ a) (h2 : b ≤ d) : fr w w1 c d := fun j hj => h j (by omega)
theorem fr.up {w w1 : Wd} {a b k : Nat} {c : Ce} (hw : w1 = va_up w k c) (h1 : a ≤ k) (h2 : k < b) : fr w w1 a b := fun j hj => by rw [hw]; exact va_upd_ne _ _ (by omega)
theorem NR.fr {w w1 : Wd} {k a b : Nat} {K M S : Nat → Nat} {p : Nat} (h : NR w k K M S p) (hf : fr w w1 a b) (hd : k + 4 ≤ a ∨ b ≤ k) : NR w1 k K M S p := ⟨(hf _ (by omega)).trans h.1, (hf _ (by omega)).trans h.2.1, (hf _ (by omega)).trans h.2.2.1, (hf _ (by omega)).trans h.2.2.2.1, h.2.2.2.2⟩
theorem NR.setK {w w1 : Wd} {k : Nat} {K M S K2 : Nat → Nat} {p : Nat} (h : NR w k K M S p) (hw : w1 = va_up w (k + 1) (ai 8 K2)) (hb : ∀ i, K2 i ≤ 3) : NR w1 k K2 M S p := by
  subst hw
  exact ⟨(va_upd_ne _ _ (by omega)).trans h.1, va_upd_self _ _ _, (va_upd_ne _ _ (by omega)).trans h.2.2.1, (va_upd_ne _ _ (by omega)).trans h.2.2.2.1, h.2.2.2.2.1, hb, h.2.2.2.2.2.2⟩
theorem NR.setM {w w1 : Wd} {k : Nat} {K M S M2 : Nat → Nat} {p : Nat} (h : NR w k K M S p) (hw : w1 = va_up w (k + 2) (ai 8 M2)) (hb : ∀ i, M2 i ≤ 10) : NR w1 k K M2 S p := by
  subst hw
  exact ⟨(va_upd_ne _ _ (by omega)).trans h.1, (va_upd_ne _ _ (by omega)).trans h.2.1, va_upd_self _ _ _, (va_upd_ne _ _ (by omega)).trans h.2.2.2.1, h.2.2.2.2.1, h.2.2.2.2.2.1, hb, h.2.2.2.2.2.2.2⟩
theorem NR.setS {w w1 : Wd} {k : Nat} {K M S S2 : Nat → Nat} {p : Nat} (h : NR w k K M S p) (hw : w1 = va_up w (k + 3) (ai 80 S2)) (hb : ∀ i, S2 i ≤ 5) : NR w1 k K M S2 p := by
  subst hw
  exact ⟨(va_upd_ne _ _ (by omega)).trans h.1, (va_upd_ne _ _ (by omega)).trans h.2.1, (va_upd_ne _ _ (by omega)).trans h.2.2.1, va_upd_self _ _ _, h.2.2.2.2.1, h.2.2.2.2.2.1, h.2.2.2.2.2.2.1, hb⟩
theorem NR.setP {w w1 : Wd} {k : Nat} {K M S : Nat → Nat} {p q : Nat} (h : NR w k K M S p) (hw : w1 = va_up w k (ob 4 [.ref (k + 1), .ref (k + 2), .ref (k + 3), .int (nI q)])) (hb : q ≤ 8) : NR w1 k K M S q := by
  subst hw
  exact ⟨va_upd_self _ _ _, (va_upd_ne _ _ (by omega)).trans h.2.1, (va_upd_ne _ _ (by omega)).trans h.2.2.1, (va_upd_ne _ _ (by omega)).trans h.2.2.2.1, hb, h.2.2.2.2.2⟩
def maxN (f : Nat → Nat) : Nat → Nat
  | 0 => 0
  | n + 1 => max (maxN f n) (f n)
theorem maxN_le {f : Nat → Nat} {b : Nat} (h : ∀ i, f i ≤ b) : ∀ n, maxN f n ≤ b
  | 0 => Nat.zero_le _
  | n + 1 => by have := maxN_le h n; have := h n; unfold maxN; omega
/-- how many stand at the beginning for which e holds, of m -/
def preN (e : Nat → Bool) : Nat → Nat
  | 0 => 0
  | m + 1 => if preN e m = m ∧ e m = true then m + 1 else preN e m
theorem preN_le (e : Nat → Bool) : ∀ m, preN e m ≤ m
  | 0 => Nat.le_refl _
  | m + 1 => by have := preN_le e m; unfold preN; split <;> omega
theorem preN_all (e : Nat → Bool) : ∀ m k, k < preN e m → e k = true
  | 0, k, h => absurd h (by unfold preN; omega)
  | m + 1, k, h => by
    unfold preN at h
    split at h
    · rename_i c
      by_cases hk : k = m
      · rw [hk]; exact c.2
      · exact preN_all e m k (by omega)
    · exact preN_all e m k h
theorem preN_stop (e : Nat → Bool) : ∀ m, preN e m < m → e (preN e m) = false
  | 0, h => absurd h (by omega)
  | m + 1, h => by
    unfold preN at h ⊢
    split
    · rename_i c; rw [if_pos c] at h; omega
    · rename_i c
      by_cases hm : preN e m = m
      · rw [hm]
        cases q : e m with
        | false => rfl
        | true => exact absurd ⟨hm, q⟩ c
      · exact preN_stop e m (by have := preN_le e m; omega)
theorem preN_eq {e : Nat → Bool} {m k : Nat} (h1 : ∀ j, j < k → e j = true) (h2 : k = m ∨ (k < m ∧ e k = false)) : preN e m = k := by
  rcases Nat.lt_trichotomy (preN e m) k with h | h | h
  · have a := preN_stop e m (by have := preN_le e m; omega)
    rw [h1 _ h] at a
    cases a
  · exact h
  · have a := preN_all e m k h
    rcases h2 with h2 | h2
    · have := preN_le e m; omega
    · rw [h2.2] at a; cases a
def alikeN (K M S : Nat → Nat) (i j : Nat) : Nat := preN (fun k => decide (saidN M S i k = saidN M S j k)) (min (longN K M i) (longN K M j))
def ansN (K M S : Nat → Nat) (p s i : Nat) : Nat := maxN (fun j => if j = i then 0 else if tb s j = true then alikeN K M S i j else 0) p
def shortN (K M S : Nat → Nat) (p s i : Nat) : Option Nat := if ansN K M S p s i < longN K M i then (if K i = 3 then some (longN K M i) else some (ansN K M S p s i + 1)) else none
def oI (r : Option Nat) : Int32 := match r with
  | some v => nI v
  | none => -4
/-- the sum over those of the set; none, if one has none -/
def soN (f : Nat → Option Nat) (b : Nat → Bool) : Nat → Option Nat
  | 0 => some 0
  | n + 1 => match soN f b n with
    | none => none
    | some a => if b n = true then (match f n with
      | none => none
      | some v => some (a + v)) else some a
theorem soN_none {f : Nat → Option Nat} {b : Nat → Bool} {i : Nat} (h : soN f b i = none) : ∀ d, soN f b (i + d) = none
  | 0 => h
  | d + 1 => by
    have := soN_none h d
    show soN f b (i + d + 1) = none
    unfold soN
    rw [this]
def cnN (b : Nat → Bool) : Nat → Nat
  | 0 => 0
  | n + 1 => if b n = true then cnN b n + 1 else cnN b n
theorem cnN_le (b : Nat → Bool) : ∀ n, cnN b n ≤ n
  | 0 => Nat.le_refl _
  | n + 1 => by have := cnN_le b n; unfold cnN; split <;> omega
theorem alikeN_le (K M S : Nat → Nat) (i j : Nat) : alikeN K M S i j ≤ longN K M i := Nat.le_trans (preN_le _ _) (Nat.min_le_left _ _)
theorem ansN_le {K M S : Nat → Nat} (hM : ∀ i, M i ≤ 10) (p s i : Nat) : ansN K M S p s i ≤ 20 := maxN_le (fun j => by
  split
  · omega
  · split
    · have := alikeN_le K M S i j
      have := longN_le (K := K) (hM i)
      omega
    · omega) p
theorem shortN_le {K M S : Nat → Nat} (hM : ∀ i, M i ≤ 10) {p s i v : Nat} (h : shortN K M S p s i = some v) : 1 ≤ v ∧ v ≤ 20 := by
  have h1 := longN_le (K := K) (hM i)
  unfold shortN at h
  split at h
  · split at h
    · cases h; omega
    · cases h; omega
  · cases h
theorem soN_le {f : Nat → Option Nat} {b : Nat → Bool} {c : Nat} (h : ∀ i v, f i = some v → v ≤ c) : ∀ n a, soN f b n = some a → a ≤ n * c
  | 0, a, e => by cases e; omega
  | n + 1, a, e => by
    unfold soN at e
    have sm : (n + 1) * c = n * c + c := Nat.succ_mul n c
    split at e
    · cases e
    · rename_i a0 h0
      have := soN_le h n a0 h0
      split at e
      · split at e
        · cases e
        · rename_i v hv
          have := h n v hv
          cases e
          omega
      · cases e
        omega

theorem c_longest (g : Gx) (n : Nat) (w : Wd) {k : Nat} {K M S : Nat → Nat} {p : Nat} (hN : NR w k K M S p) : CT g yX4_longest cX4_longest 3 (some .int) rm_X4_longest n n w [.ref k] (Rv (.int (nI (maxN (longN K M) p))) w) := by
  have hp := hN.2.2.2.2.1
  have hM := hN.2.2.2.2.2.2.1
  refine CT.start [some (.ref k), none, none] (by decide +kernel) rfl (Nat.le_of_ble_eq_true rfl) (fun x C hnm => ?_)
  refine ww_iconst C (v := nI 0) dX4_longest_0 (by decide) ?_
  refine ww_istore1 C dX4_longest_1 (by decide) rfl ?_
  refine ww_iconst C (v := nI 0) dX4_longest_2 (by decide) ?_
  refine ww_istore2 C dX4_longest_3 (by decide) rfl ?_
  have lp4 : ∀ (m : Nat) (i : Nat), i ≤ p → p < i + m → WW g x 3 0 0 n w 4 [some (.ref k), some (.int (nI (maxN (longN K M) i))), some (.int (nI i))] [] := by
    intro m
    induction m with
    | zero =>
      intro i hi0 hm
      exact absurd hm (by omega)
    | succ m ih4 =>
      intro i hi0 hm
      refine ww_iload2 C dX4_longest_4 ?_
      refine ww_aload0 C dX4_longest_5 ?_
      refine ww_getf C fl_X4_21 hN.1 rfl dX4_longest_6 ?_
      refine ww_icmpgeN C (by omega) (tgt := 28) dX4_longest_9 (by decide) (fun c9 => ?_) (fun c9 => ?_)
      · skip
        have e : p = i := by omega
        subst e
        refine ww_iload1 C dX4_longest_28 ?_
        exact ww_ri C dX4_longest_29 rfl ⟨Nat.le_of_ble_eq_true rfl, Nat.le_of_ble_eq_true rfl⟩ rfl rfl
      · skip
        refine ww_iload1 C dX4_longest_12 ?_
        refine ww_aload0 C dX4_longest_13 ?_
        refine ww_iload2 C dX4_longest_14 ?_
        have hi := c9
        have hL := longN_le (K := K) (hM i)
        have hx := maxN_le (f := longN K M) (b := 20) (fun j => longN_le (hM j)) i
        refine ww_cV1v C hN.1 rfl (c_longOf g n w hN hi) kV_X4_39 ⟨Nat.le_of_ble_eq_true rfl, Nat.le_of_ble_eq_true rfl⟩ ⟨rfl, rfl⟩ ⟨Nat.le_of_ble_eq_true rfl, Nat.le_of_ble_eq_true rfl⟩ (Nat.le_of_ble_eq_true rfl) dX4_longest_15 ?_
        refine ww_maxN C (by omega) ml_X4_42 kj_max_s kj_math_i kj_max_c ⟨Nat.le_of_ble_eq_true rfl, Nat.le_of_ble_eq_true rfl⟩ ⟨Nat.le_of_ble_eq_true rfl, Nat.le_of_ble_eq_true rfl⟩ dX4_longest_18 ?_
        refine ww_istore1 C dX4_longest_21 (by decide) rfl ?_
        refine ww_iincN2 C dX4_longest_22 (by decide) rfl ?_
        refine ww_goto C (tgt := 4) dX4_longest_25 (by decide) ?_
        exact ih4 (i + 1) (by omega) (by omega)
  exact lp4 (p + 1) 0 (by omega) (by omega)
def gM (M : Nat → Nat) (i : Nat) : Nat → Nat := if M i < 10 then va_up M i (M i + 1) else M
def gS (M S : Nat → Nat) (i s : Nat) : Nat → Nat := if M i < 10 then va_up S (10 * i + M i) s else S
def lM (M : Nat → Nat) (i : Nat) : Nat → Nat := if 2 ≤ M i then va_up M i (M i - 1) else M
theorem c_gain (g : Gx) (n : Nat) (w : Wd) {k : Nat} {K M S : Nat → Nat} {p : Nat} (hN : NR w k K M S p) {i s : Nat} (hi : i < p) (hs : s ≤ 5) : ∃ w1, NR w1 k K (gM M i) (gS M S i s) p ∧ fr w w1 k (k + 4) ∧ CT g yX4_gain cX4_gain 3 (some .boolean) rm_X4_gain n n w [.ref k, .int (nI i), .int (nI s)] (Rv (.int (bz (decide (M i < 10)))) w1) := by
  have hp := hN.2.2.2.2.1
  have hM := hN.2.2.2.2.2.2.1
  have hMi := hM i
  by_cases c0 : M i < 10
  · skip
    refine ⟨va_up (va_up w (k + 3) (ai 80 (va_up S (10 * i + M i) s))) (k + 2) (ai 8 (va_up M i (M i + 1))), by unfold gM gS; rw [if_pos c0, if_pos c0]; exact (hN.setS rfl (up_le hN.2.2.2.2.2.2.2 hs)).setM rfl (up_le hM (by omega)), (fr.up (k := k + 3) rfl (by omega) (by omega)).tr (fr.up (k := k + 2) rfl (by omega) (by omega)), ?_⟩
    refine CT.start [some (.ref k), some (.int (nI i)), some (.int (nI s))] (by decide +kernel) rfl (Nat.le_of_ble_eq_true rfl) (fun x C hnm => ?_)
    refine ww_aload0 C dX4_gain_0 ?_
    refine ww_iload1 C dX4_gain_1 ?_
    refine ww_cV1v C hN.1 rfl (c_has g n w hN _) kV_X4_31 ⟨Nat.le_of_ble_eq_true rfl, Nat.le_of_ble_eq_true rfl⟩ ⟨rfl, rfl⟩ ⟨Nat.le_of_ble_eq_true rfl, Nat.le_of_ble_eq_true rfl⟩ (Nat.le_of_ble_eq_true rfl) dX4_gain_2 ?_
    refine ww_topi (show bz (hb p (nI i)) = bz true by rw [hb_N hi (by have := hN.2.2.2.2.1; omega)]) ?_
    refine ww_ifeqB C (tgt := 19) dX4_gain_5 (by decide) (fun c5 => ?_) (fun c5 => ?_)
    · skip
      cases c5
    · skip
      refine ww_aload0 C dX4_gain_8 ?_
      refine ww_getf C fl_X4_15 hN.1 rfl dX4_gain_9 ?_
      refine ww_iload1 C dX4_gain_12 ?_
      refine ww_ialdN C hN.2.2.1 (by omega) dX4_gain_13 (kk := ?_)
      refine ww_bipush C (v := nI 10) dX4_gain_14 (by decide) ?_
      refine ww_icmpltN C (by omega) (tgt := 21) dX4_gain_16 (by decide) (fun c16 => ?_) (fun c16 => ?_)
      · skip
        refine ww_aload0 C dX4_gain_21 ?_
        refine ww_getf C fl_X4_18 hN.1 rfl dX4_gain_22 ?_
        refine ww_iload1 C dX4_gain_25 ?_
        refine ww_bipush C (v := nI 10) dX4_gain_26 (by decide) ?_
        refine ww_imulN C dX4_gain_28 ?_
        refine ww_aload0 C dX4_gain_29 ?_
        refine ww_getf C fl_X4_15 hN.1 rfl dX4_gain_30 ?_
        refine ww_iload1 C dX4_gain_33 ?_
        refine ww_ialdN C hN.2.2.1 (by omega) dX4_gain_34 (kk := ?_)
        refine ww_iaddN C dX4_gain_35 ?_
        refine ww_iload2 C dX4_gain_36 ?_
        rw [Nat.mul_comm i 10]
        refine ww_iastN C hN.2.2.2.1 (by omega) dX4_gain_37 (kk := fun w1 hw1 => ?_)
        have hN := hN.setS hw1 (up_le hN.2.2.2.2.2.2.2 (by omega))
        refine ww_aload0 C dX4_gain_38 ?_
        refine ww_getf C fl_X4_15 hN.1 rfl dX4_gain_39 ?_
        refine ww_iload1 C dX4_gain_42 ?_
        refine ww_dup2 C dX4_gain_43 rfl rfl ?_
        refine ww_ialdN C hN.2.2.1 (by omega) dX4_gain_44 (kk := ?_)
        refine ww_iconst C (v := nI 1) dX4_gain_45 (by decide) ?_
        refine ww_iaddN C dX4_gain_46 ?_
        refine ww_iastN C hN.2.2.1 (by omega) dX4_gain_47 (kk := fun w2 hw2 => ?_)
        have hN := hN.setM hw2 (up_le hN.2.2.2.2.2.2.1 (by omega))
        refine ww_iconst C (v := nI 1) dX4_gain_48 (by decide) ?_
        exact ww_rz C dX4_gain_49 rfl ⟨Nat.le_of_ble_eq_true rfl, Nat.le_of_ble_eq_true rfl⟩ (by rw [decide_eq_true c0]; rfl) (by rw [hw2, hw1])
      · skip
        omega
  · skip
    refine ⟨w, by unfold gM gS; rw [if_neg c0, if_neg c0]; exact hN, fr.rf, ?_⟩
    refine CT.start [some (.ref k), some (.int (nI i)), some (.int (nI s))] (by decide +kernel) rfl (Nat.le_of_ble_eq_true rfl) (fun x C hnm => ?_)
    refine ww_aload0 C dX4_gain_0 ?_
    refine ww_iload1 C dX4_gain_1 ?_
    refine ww_cV1v C hN.1 rfl (c_has g n w hN _) kV_X4_31 ⟨Nat.le_of_ble_eq_true rfl, Nat.le_of_ble_eq_true rfl⟩ ⟨rfl, rfl⟩ ⟨Nat.le_of_ble_eq_true rfl, Nat.le_of_ble_eq_true rfl⟩ (Nat.le_of_ble_eq_true rfl) dX4_gain_2 ?_
    refine ww_topi (show bz (hb p (nI i)) = bz true by rw [hb_N hi (by have := hN.2.2.2.2.1; omega)]) ?_
    refine ww_ifeqB C (tgt := 19) dX4_gain_5 (by decide) (fun c5 => ?_) (fun c5 => ?_)
    · skip
      cases c5
    · skip
      refine ww_aload0 C dX4_gain_8 ?_
      refine ww_getf C fl_X4_15 hN.1 rfl dX4_gain_9 ?_
      refine ww_iload1 C dX4_gain_12 ?_
      refine ww_ialdN C hN.2.2.1 (by omega) dX4_gain_13 (kk := ?_)
      refine ww_bipush C (v := nI 10) dX4_gain_14 (by decide) ?_
      refine ww_icmpltN C (by omega) (tgt := 21) dX4_gain_16 (by decide) (fun c16 => ?_) (fun c16 => ?_)
      · skip
        omega
      · skip
        refine ww_iconst C (v := nI 0) dX4_gain_19 (by decide) ?_
        exact ww_rz C dX4_gain_20 rfl ⟨Nat.le_of_ble_eq_true rfl, Nat.le_of_ble_eq_true rfl⟩ (by rw [decide_eq_false c0]; rfl) rfl
theorem c_lose (g : Gx) (n : Nat) (w : Wd) {k : Nat} {K M S : Nat → Nat} {p : Nat} (hN : NR w k K M S p) {i : Nat} (hi : i < p) : ∃ w1, NR w1 k K (lM M i) S p ∧ fr w w1 k (k + 4) ∧ CT g yX4_lose cX4_lose 2 none rm_X4_lose n n w [.ref k, .int (nI i)] (R0 w1) := by
  have hp := hN.2.2.2.2.1
  have hM := hN.2.2.2.2.2.2.1
  have hMi := hM i
  by_cases c0 : 2 ≤ M i
  · skip
    refine ⟨va_up w (k + 2) (ai 8 (va_up M i (M i - 1))), by unfold lM; rw [if_pos c0]; exact hN.setM rfl (up_le hM (by omega)), fr.up (k := k + 2) rfl (by omega) (by omega), ?_⟩
    refine CT.start [some (.ref k), some (.int (nI i))] (by decide +kernel) rfl (Nat.le_of_ble_eq_true rfl) (fun x C hnm => ?_)
    refine ww_aload0 C dX4_lose_0 ?_
    refine ww_iload1 C dX4_lose_1 ?_
    refine ww_cV1v C hN.1 rfl (c_has g n w hN _) kV_X4_31 ⟨Nat.le_of_ble_eq_true rfl, Nat.le_of_ble_eq_true rfl⟩ ⟨rfl, rfl⟩ ⟨Nat.le_of_ble_eq_true rfl, Nat.le_of_ble_eq_true rfl⟩ (Nat.le_of_ble_eq_true rfl) dX4_lose_2 ?_
    refine ww_topi (show bz (hb p (nI i)) = bz true by rw [hb_N hi (by have := hN.2.2.2.2.1; omega)]) ?_
    refine ww_ifeqB C (tgt := 28) dX4_lose_5 (by decide) (fun c5 => ?_) (fun c5 => ?_)
    · skip
      cases c5
    · skip
      refine ww_aload0 C dX4_lose_8 ?_
      refine ww_getf C fl_X4_15 hN.1 rfl dX4_lose_9 ?_
      refine ww_iload1 C dX4_lose_12 ?_
      refine ww_ialdN C hN.2.2.1 (by omega) dX4_lose_13 (kk := ?_)
      refine ww_iconst C (v := nI 2) dX4_lose_14 (by decide) ?_
      refine ww_icmpltN C (by omega) (tgt := 28) dX4_lose_15 (by decide) (fun c15 => ?_) (fun c15 => ?_)
      · skip
        omega
      · skip
        refine ww_aload0 C dX4_lose_18 ?_
        refine ww_getf C fl_X4_15 hN.1 rfl dX4_lose_19 ?_
        refine ww_iload1 C dX4_lose_22 ?_
        refine ww_dup2 C dX4_lose_23 rfl rfl ?_
        refine ww_ialdN C hN.2.2.1 (by omega) dX4_lose_24 (kk := ?_)
        refine ww_iconst C (v := nI 1) dX4_lose_25 (by decide) ?_
        refine ww_isubN C (by omega) dX4_lose_26 ?_
        refine ww_iastN C hN.2.2.1 (by omega) dX4_lose_27 (kk := fun w1 hw1 => ?_)
        have hN := hN.setM hw1 (up_le hN.2.2.2.2.2.2.1 (by omega))
        exact ww_rv C dX4_lose_28 rfl ⟨Nat.le_of_ble_eq_true rfl, Nat.le_of_ble_eq_true rfl⟩ hw1
  · skip
    refine ⟨w, by unfold lM; rw [if_neg c0]; exact hN, fr.rf, ?_⟩
    refine CT.start [some (.ref k), some (.int (nI i))] (by decide +kernel) rfl (Nat.le_of_ble_eq_true rfl) (fun x C hnm => ?_)
    refine ww_aload0 C dX4_lose_0 ?_
    refine ww_iload1 C dX4_lose_1 ?_
    refine ww_cV1v C hN.1 rfl (c_has g n w hN _) kV_X4_31 ⟨Nat.le_of_ble_eq_true rfl, Nat.le_of_ble_eq_true rfl⟩ ⟨rfl, rfl⟩ ⟨Nat.le_of_ble_eq_true rfl, Nat.le_of_ble_eq_true rfl⟩ (Nat.le_of_ble_eq_true rfl) dX4_lose_2 ?_
    refine ww_topi (show bz (hb p (nI i)) = bz true by rw [hb_N hi (by have := hN.2.2.2.2.1; omega)]) ?_
    refine ww_ifeqB C (tgt := 28) dX4_lose_5 (by decide) (fun c5 => ?_) (fun c5 => ?_)
    · skip
      cases c5
    · skip
      refine ww_aload0 C dX4_lose_8 ?_
      refine ww_getf C fl_X4_15 hN.1 rfl dX4_lose_9 ?_
      refine ww_iload1 C dX4_lose_12 ?_
      refine ww_ialdN C hN.2.2.1 (by omega) dX4_lose_13 (kk := ?_)
      refine ww_iconst C (v := nI 2) dX4_lose_14 (by decide) ?_
      refine ww_icmpltN C (by omega) (tgt := 28) dX4_lose_15 (by decide) (fun c15 => ?_) (fun c15 => ?_)
      · skip
        exact ww_rv C dX4_lose_28 rfl ⟨Nat.le_of_ble_eq_true rfl, Nat.le_of_ble_eq_true rfl⟩ rfl
      · skip
        omega
theorem c_changeKind (g : Gx) (n : Nat) (w : Wd) {k : Nat} {K M S : Nat → Nat} {p : Nat} (hN : NR w k K M S p) {i t : Nat} (hi : i < p) (ht : t ≤ 3) : ∃ w1, NR w1 k (va_up K i t) M S p ∧ fr w w1 k (k + 4) ∧ CT g yX4_changeKind cX4_changeKind 4 (some .int) rm_X4_changeKind n n w [.ref k, .int (nI i), .int (nI t)] (Rv (.int (nI (K i))) w1) := by
  have hp := hN.2.2.2.2.1
  have hM := hN.2.2.2.2.2.2.1
  refine ⟨va_up w (k + 1) (ai 8 (va_up K i t)), hN.setK rfl (up_le hN.2.2.2.2.2.1 ht), fr.up (k := k + 1) rfl (by omega) (by omega), ?_⟩
  refine CT.start [some (.ref k), some (.int (nI i)), some (.int (nI t)), none] (by decide +kernel) rfl (Nat.le_of_ble_eq_true rfl) (fun x C hnm => ?_)
  refine ww_aload0 C dX4_changeKind_0 ?_
  refine ww_iload1 C dX4_changeKind_1 ?_
  refine ww_cV1v C hN.1 rfl (c_kindOf g n w hN hi) kV_X4_35 ⟨Nat.le_of_ble_eq_true rfl, Nat.le_of_ble_eq_true rfl⟩ ⟨rfl, rfl⟩ ⟨Nat.le_of_ble_eq_true rfl, Nat.le_of_ble_eq_true rfl⟩ (Nat.le_of_ble_eq_true rfl) dX4_changeKind_2 ?_
  refine ww_istore3 C dX4_changeKind_5 (by decide) rfl ?_
  refine ww_aload0 C dX4_changeKind_6 ?_
  refine ww_iload1 C dX4_changeKind_7 ?_
  refine ww_cV1v C hN.1 rfl (c_has g n w hN _) kV_X4_31 ⟨Nat.le_of_ble_eq_true rfl, Nat.le_of_ble_eq_true rfl⟩ ⟨rfl, rfl⟩ ⟨Nat.le_of_ble_eq_true rfl, Nat.le_of_ble_eq_true rfl⟩ (Nat.le_of_ble_eq_true rfl) dX4_changeKind_8 ?_
  refine ww_topi (show bz (hb p (nI i)) = bz true by rw [hb_N hi (by have := hN.2.2.2.2.1; omega)]) ?_
  refine ww_ifeqB C (tgt := 21) dX4_changeKind_11 (by decide) (fun c5 => ?_) (fun c5 => ?_)
  · skip
    cases c5
  · skip
    refine ww_aload0 C dX4_changeKind_14 ?_
    refine ww_getf C fl_X4_9 hN.1 rfl dX4_changeKind_15 ?_
    refine ww_iload1 C dX4_changeKind_18 ?_
    refine ww_iload2 C dX4_changeKind_19 ?_
    refine ww_iastN C hN.2.1 (by omega) dX4_changeKind_20 (kk := fun w1 hw1 => ?_)
    have hN := hN.setK hw1 (up_le hN.2.2.2.2.2.1 (by omega))
    refine ww_iload3 C dX4_changeKind_21 ?_
    exact ww_ri C dX4_changeKind_22 rfl ⟨Nat.le_of_ble_eq_true rfl, Nat.le_of_ble_eq_true rfl⟩ rfl hw1
theorem c_copyFrom (g : Gx) (n : Nat) (w : Wd) {k j : Nat} {K M S K2 M2 S2 : Nat → Nat} {p p2 : Nat} (hN : NR w k K M S p) (hT : NR w j K2 M2 S2 p2) (hd : j + 4 ≤ k ∨ k + 4 ≤ j) : ∃ w1, NR w1 k K2 M2 S2 p2 ∧ fr w w1 k (k + 4) ∧ CT g yX4_copyFrom cX4_copyFrom 2 none rm_X4_copyFrom n n w [.ref k, .ref j] (R0 w1) := by
  have hp := hT.2.2.2.2.1
  refine ⟨va_up (va_up (va_up (va_up w (k + 1) (ai 8 K2)) (k + 2) (ai 8 M2)) (k + 3) (ai 80 S2)) k (ob 4 [.ref (k + 1), .ref (k + 2), .ref (k + 3), .int (nI p2)]), ?_, ?_, ?_⟩
  · exact (((hN.setK rfl hT.2.2.2.2.2.1).setM rfl hT.2.2.2.2.2.2.1).setS rfl hT.2.2.2.2.2.2.2).setP rfl hp
  · exact (((fr.up (k := k + 1) rfl (by omega) (by omega)).tr (fr.up (k := k + 2) rfl (by omega) (by omega))).tr (fr.up (k := k + 3) rfl (by omega) (by omega))).tr (fr.up (k := k) rfl (by omega) (by omega))
  · refine CT.start [some (.ref k), some (.ref j)] (by decide +kernel) rfl (Nat.le_of_ble_eq_true rfl) (fun x C hnm => ?_)
    refine ww_aload1 C dX4_copyFrom_0 ?_
    refine ww_getf C fl_X4_9 hT.1 rfl dX4_copyFrom_1 ?_
    refine ww_iconst C (v := nI 0) dX4_copyFrom_4 (by decide) ?_
    refine ww_aload0 C dX4_copyFrom_5 ?_
    refine ww_getf C fl_X4_9 hN.1 rfl dX4_copyFrom_6 ?_
    refine ww_iconst C (v := nI 0) dX4_copyFrom_9 (by decide) ?_
    refine ww_bipush C (v := nI 8) dX4_copyFrom_10 (by decide) ?_
    refine ww_copyN C ml_X4_25 hT.2.1 hN.2.1 (by decide) (Nat.le_of_ble_eq_true rfl) (Nat.le_of_ble_eq_true rfl) dX4_copyFrom_12 (fun w1 hw1 => ?_)
    have hT := hT.fr (fr.up (a := k) (b := k + 4) hw1 (by omega) (by omega)) (by omega)
    have hN := hN.setK hw1 hT.2.2.2.2.2.1
    refine ww_aload1 C dX4_copyFrom_15 ?_
    refine ww_getf C fl_X4_15 hT.1 rfl dX4_copyFrom_16 ?_
    refine ww_iconst C (v := nI 0) dX4_copyFrom_19 (by decide) ?_
    refine ww_aload0 C dX4_copyFrom_20 ?_
    refine ww_getf C fl_X4_15 hN.1 rfl dX4_copyFrom_21 ?_
    refine ww_iconst C (v := nI 0) dX4_copyFrom_24 (by decide) ?_
    refine ww_bipush C (v := nI 8) dX4_copyFrom_25 (by decide) ?_
    refine ww_copyN C ml_X4_25 hT.2.2.1 hN.2.2.1 (by decide) (Nat.le_of_ble_eq_true rfl) (Nat.le_of_ble_eq_true rfl) dX4_copyFrom_27 (fun w2 hw2 => ?_)
    have hT := hT.fr (fr.up (a := k) (b := k + 4) hw2 (by omega) (by omega)) (by omega)
    have hN := hN.setM hw2 hT.2.2.2.2.2.2.1
    refine ww_aload1 C dX4_copyFrom_30 ?_
    refine ww_getf C fl_X4_18 hT.1 rfl dX4_copyFrom_31 ?_
    refine ww_iconst C (v := nI 0) dX4_copyFrom_34 (by decide) ?_
    refine ww_aload0 C dX4_copyFrom_35 ?_
    refine ww_getf C fl_X4_18 hN.1 rfl dX4_copyFrom_36 ?_
    refine ww_iconst C (v := nI 0) dX4_copyFrom_39 (by decide) ?_
    refine ww_bipush C (v := nI 80) dX4_copyFrom_40 (by decide) ?_
    refine ww_copyN C ml_X4_25 hT.2.2.2.1 hN.2.2.2.1 (by decide) (Nat.le_of_ble_eq_true rfl) (Nat.le_of_ble_eq_true rfl) dX4_copyFrom_42 (fun w3 hw3 => ?_)
    have hT := hT.fr (fr.up (a := k) (b := k + 4) hw3 (by omega) (by omega)) (by omega)
    have hN := hN.setS hw3 hT.2.2.2.2.2.2.2
    refine ww_aload0 C dX4_copyFrom_45 ?_
    refine ww_aload1 C dX4_copyFrom_46 ?_
    refine ww_getf C fl_X4_21 hT.1 rfl dX4_copyFrom_47 ?_
    refine ww_putI C fl_X4_21 hN.1 (Nat.le_of_ble_eq_true rfl) rfl dX4_copyFrom_50 (fun w4 hw4 => ?_)
    skip
    exact ww_rv C dX4_copyFrom_53 rfl ⟨Nat.le_of_ble_eq_true rfl, Nat.le_of_ble_eq_true rfl⟩ (by rw [hw4, hw3, hw2, hw1]; try rfl)
theorem c_alike (g : Gx) (n : Nat) (w : Wd) {k : Nat} {K M S : Nat → Nat} {p : Nat} (hN : NR w k K M S p) {i j : Nat} (hi : i < p) (hj : j < p) : CT g yX4_alike cX4_alike 5 (some .int) rm_X4_alike n n w [.ref k, .int (nI i), .int (nI j)] (Rv (.int (nI (alikeN K M S i j))) w) := by
  have hp := hN.2.2.2.2.1
  have hM := hN.2.2.2.2.2.2.1
  have hLi := longN_le (K := K) (hM i)
  have hLj := longN_le (K := K) (hM j)
  refine CT.start [some (.ref k), some (.int (nI i)), some (.int (nI j)), none, none] (by decide +kernel) rfl (Nat.le_of_ble_eq_true rfl) (fun x C hnm => ?_)
  refine ww_aload0 C dX4_alike_0 ?_
  refine ww_iload1 C dX4_alike_1 ?_
  refine ww_cV1v C hN.1 rfl (c_longOf g n w hN hi) kV_X4_39 ⟨Nat.le_of_ble_eq_true rfl, Nat.le_of_ble_eq_true rfl⟩ ⟨rfl, rfl⟩ ⟨Nat.le_of_ble_eq_true rfl, Nat.le_of_ble_eq_true rfl⟩ (Nat.le_of_ble_eq_true rfl) dX4_alike_2 ?_
  refine ww_aload0 C dX4_alike_5 ?_
  refine ww_iload2 C dX4_alike_6 ?_
  refine ww_cV1v C hN.1 rfl (c_longOf g n w hN hj) kV_X4_39 ⟨Nat.le_of_ble_eq_true rfl, Nat.le_of_ble_eq_true rfl⟩ ⟨rfl, rfl⟩ ⟨Nat.le_of_ble_eq_true rfl, Nat.le_of_ble_eq_true rfl⟩ (Nat.le_of_ble_eq_true rfl) dX4_alike_7 ?_
  refine ww_minN C (by omega) ml_X4_58 kj_min_s kj_math_i kj_min_c ⟨Nat.le_of_ble_eq_true rfl, Nat.le_of_ble_eq_true rfl⟩ ⟨Nat.le_of_ble_eq_true rfl, Nat.le_of_ble_eq_true rfl⟩ dX4_alike_10 ?_
  refine ww_istore3 C dX4_alike_13 (by decide) rfl ?_
  refine ww_iconst C (v := nI 0) dX4_alike_14 (by decide) ?_
  refine ww_istore4 C dX4_alike_15 (by decide) rfl ?_
  have lp17 : ∀ (m : Nat) (q : Nat), q ≤ min (longN K M i) (longN K M j) → min (longN K M i) (longN K M j) < q + m → (∀ r, r < q → decide (saidN M S i r = saidN M S j r) = true) → WW g x 5 0 0 n w 17 [some (.ref k), some (.int (nI i)), some (.int (nI j)), some (.int (nI (min (longN K M i) (longN K M j)))), some (.int (nI q))] [] := by
    intro m
    induction m with
    | zero =>
      intro q hq hm ha
      exact absurd hm (by omega)
    | succ m ih17 =>
      intro q hq hm ha
      refine ww_iload4 C dX4_alike_17 ?_
      refine ww_iload3 C dX4_alike_19 ?_
      refine ww_icmpgeN C (by omega) (tgt := 46) dX4_alike_20 (by decide) (fun c20 => ?_) (fun c20 => ?_)
      · skip
        refine ww_iload4 C dX4_alike_46 ?_
        exact ww_ri C dX4_alike_48 rfl ⟨Nat.le_of_ble_eq_true rfl, Nat.le_of_ble_eq_true rfl⟩ (by congr 1; exact (preN_eq ha (by first | exact Or.inl (by omega) | exact Or.inr ⟨by omega, decide_eq_false c37⟩)).symm) rfl
      · skip
        refine ww_aload0 C dX4_alike_23 ?_
        refine ww_iload1 C dX4_alike_24 ?_
        refine ww_iload4 C dX4_alike_25 ?_
        refine ww_cV2v C hN.1 rfl (c_saidAt g n w hN hi (by omega)) kV_X4_61 ⟨Nat.le_of_ble_eq_true rfl, Nat.le_of_ble_eq_true rfl⟩ ⟨rfl, rfl⟩ ⟨Nat.le_of_ble_eq_true rfl, Nat.le_of_ble_eq_true rfl⟩ (Nat.le_of_ble_eq_true rfl) dX4_alike_27 ?_
        refine ww_aload0 C dX4_alike_30 ?_
        refine ww_iload2 C dX4_alike_31 ?_
        refine ww_iload4 C dX4_alike_32 ?_
        refine ww_cV2v C hN.1 rfl (c_saidAt g n w hN hj (by omega)) kV_X4_61 ⟨Nat.le_of_ble_eq_true rfl, Nat.le_of_ble_eq_true rfl⟩ ⟨rfl, rfl⟩ ⟨Nat.le_of_ble_eq_true rfl, Nat.le_of_ble_eq_true rfl⟩ (Nat.le_of_ble_eq_true rfl) dX4_alike_34 ?_
        refine ww_icmpneN C (by have := hN.2.2.2.2.2.2.2 (10 * i + if q < M i then q else q - M i); have := hN.2.2.2.2.2.2.2 (10 * j + if q < M j then q else q - M j); unfold saidN; omega) (tgt := 46) dX4_alike_37 (by decide) (fun c37 => ?_) (fun c37 => ?_)
        · skip
          refine ww_iload4 C dX4_alike_46 ?_
          exact ww_ri C dX4_alike_48 rfl ⟨Nat.le_of_ble_eq_true rfl, Nat.le_of_ble_eq_true rfl⟩ (by congr 1; exact (preN_eq ha (by first | exact Or.inl (by omega) | exact Or.inr ⟨by omega, decide_eq_false c37⟩)).symm) rfl
        · skip
          refine ww_iincN4 C dX4_alike_40 (by decide) rfl ?_
          refine ww_goto C (tgt := 17) dX4_alike_43 (by decide) ?_
          exact ih17 (q + 1) (by omega) (by omega) (fun r h => by rcases Nat.lt_or_ge r q with c | c; exact ha r c; rw [show r = q by omega]; exact decide_eq_true c37)
  exact lp17 (min (longN K M i) (longN K M j) + 1) 0 (by omega) (by omega) (fun r h => absurd h (by omega))
theorem ansN_s (K M S : Nat → Nat) (s i j : Nat) : ansN K M S (j + 1) s i = max (ansN K M S j s i) (if j = i then 0 else if tb s j = true then alikeN K M S i j else 0) := rfl
theorem c_shortest (g : Gx) (n : Nat) (w : Wd) {k : Nat} {K M S : Nat → Nat} {p : Nat} (hN : NR w k K M S p) {i s : Nat} (hi : i < p) (hs : s < 2147483648) : CT g yX4_shortest cX4_shortest 5 (some .int) rm_X4_shortest n n w [.ref k, .int (nI i), .int (nI s)] (Rv (.int (oI (shortN K M S p s i))) w) := by
  have hp := hN.2.2.2.2.1
  have hM := hN.2.2.2.2.2.2.1
  have hLi := longN_le (K := K) (hM i)
  refine CT.start [some (.ref k), some (.int (nI i)), some (.int (nI s)), none, none] (by decide +kernel) rfl (Nat.le_of_ble_eq_true rfl) (fun x C hnm => ?_)
  refine ww_iconst C (v := nI 0) dX4_shortest_0 (by decide) ?_
  refine ww_istore3 C dX4_shortest_1 (by decide) rfl ?_
  refine ww_iconst C (v := nI 0) dX4_shortest_2 (by decide) ?_
  refine ww_istore4 C dX4_shortest_3 (by decide) rfl ?_
  have lp5 : ∀ (m : Nat) (j a : Nat), j ≤ p → p < j + m → a = ansN K M S j s i → WW g x 5 0 0 n w 5 [some (.ref k), some (.int (nI i)), some (.int (nI s)), some (.int (nI a)), some (.int (nI j))] [] := by
    intro m
    induction m with
    | zero =>
      intro j a hj0 hm ha
      exact absurd hm (by omega)
    | succ m ih5 =>
      intro j a hj0 hm ha
      subst ha
      refine ww_iload4 C dX4_shortest_5 ?_
      refine ww_aload0 C dX4_shortest_7 ?_
      refine ww_getf C fl_X4_21 hN.1 rfl dX4_shortest_8 ?_
      refine ww_icmpgeN C (by omega) (tgt := 47) dX4_shortest_11 (by decide) (fun c11 => ?_) (fun c11 => ?_)
      · skip
        have e : p = j := by omega
        subst e
        refine ww_aload0 C dX4_shortest_47 ?_
        refine ww_iload1 C dX4_shortest_48 ?_
        refine ww_cV1v C hN.1 rfl (c_longOf g n w hN hi) kV_X4_39 ⟨Nat.le_of_ble_eq_true rfl, Nat.le_of_ble_eq_true rfl⟩ ⟨rfl, rfl⟩ ⟨Nat.le_of_ble_eq_true rfl, Nat.le_of_ble_eq_true rfl⟩ (Nat.le_of_ble_eq_true rfl) dX4_shortest_49 ?_
        refine ww_istore4 C dX4_shortest_52 (by decide) rfl ?_
        refine ww_iload3 C dX4_shortest_54 ?_
        refine ww_iload4 C dX4_shortest_55 ?_
        refine ww_icmpltN C (by have := ansN_le (K := K) (S := S) hM p s i; omega) (tgt := 63) dX4_shortest_57 (by decide) (fun c57 => ?_) (fun c57 => ?_)
        · skip
          refine ww_aload0 C dX4_shortest_63 ?_
          refine ww_iload1 C dX4_shortest_64 ?_
          refine ww_cV1v C hN.1 rfl (c_kindOf g n w hN hi) kV_X4_35 ⟨Nat.le_of_ble_eq_true rfl, Nat.le_of_ble_eq_true rfl⟩ ⟨rfl, rfl⟩ ⟨Nat.le_of_ble_eq_true rfl, Nat.le_of_ble_eq_true rfl⟩ (Nat.le_of_ble_eq_true rfl) dX4_shortest_65 ?_
          refine ww_iconst C (v := nI 3) dX4_shortest_68 (by decide) ?_
          refine ww_icmpneN C (by have := hN.2.2.2.2.2.1 i; omega) (tgt := 77) dX4_shortest_69 (by decide) (fun c69 => ?_) (fun c69 => ?_)
          · skip
            refine ww_iload3 C dX4_shortest_77 ?_
            refine ww_iconst C (v := nI 1) dX4_shortest_78 (by decide) ?_
            refine ww_iaddN C dX4_shortest_79 ?_
            exact ww_ri C dX4_shortest_80 rfl ⟨Nat.le_of_ble_eq_true rfl, Nat.le_of_ble_eq_true rfl⟩ (by unfold shortN; first | (rw [if_neg (by omega)]; rfl) | (rw [if_pos c57, if_pos c69]; rfl) | (rw [if_pos c57, if_neg c69]; rfl)) rfl
          · skip
            refine ww_iload4 C dX4_shortest_72 ?_
            refine ww_goto C (tgt := 80) dX4_shortest_74 (by decide) ?_
            exact ww_ri C dX4_shortest_80 rfl ⟨Nat.le_of_ble_eq_true rfl, Nat.le_of_ble_eq_true rfl⟩ (by unfold shortN; first | (rw [if_neg (by omega)]; rfl) | (rw [if_pos c57, if_pos c69]; rfl) | (rw [if_pos c57, if_neg c69]; rfl)) rfl
        · skip
          refine ww_bipush C (v := -4) dX4_shortest_60 (by decide) ?_
          exact ww_ri C dX4_shortest_62 rfl ⟨Nat.le_of_ble_eq_true rfl, Nat.le_of_ble_eq_true rfl⟩ (by unfold shortN; first | (rw [if_neg (by omega)]; rfl) | (rw [if_pos c57, if_pos c69]; rfl) | (rw [if_pos c57, if_neg c69]; rfl)) rfl
      · skip
        refine ww_iload4 C dX4_shortest_14 ?_
        refine ww_iload1 C dX4_shortest_16 ?_
        refine ww_icmpeqN C (by omega) (tgt := 41) dX4_shortest_17 (by decide) (fun c17 => ?_) (fun c17 => ?_)
        · skip
          refine ww_iincN4 C dX4_shortest_41 (by decide) rfl ?_
          refine ww_goto C (tgt := 5) dX4_shortest_44 (by decide) ?_
          exact ih5 (j + 1) _ (by omega) (by omega) (by rw [ansN_s]; first | (rw [if_pos c17]; omega) | (rw [if_neg c17, if_neg (by rw [c26]; decide)]; omega) | (rw [if_neg c17, if_pos c26]))
        · skip
          refine ww_iload4 C dX4_shortest_20 ?_
          refine ww_iload2 C dX4_shortest_22 ?_
          refine ww_cSN2v C (c_isOf g n w _ _ (by omega) hs) kSN_X4_64 ⟨Nat.le_of_ble_eq_true rfl, Nat.le_of_ble_eq_true rfl⟩ ⟨rfl, rfl⟩ ⟨Nat.le_of_ble_eq_true rfl, Nat.le_of_ble_eq_true rfl⟩ (Nat.le_of_ble_eq_true rfl) dX4_shortest_23 ?_
          refine ww_ifeqB C (tgt := 41) dX4_shortest_26 (by decide) (fun c26 => ?_) (fun c26 => ?_)
          · skip
            refine ww_iincN4 C dX4_shortest_41 (by decide) rfl ?_
            refine ww_goto C (tgt := 5) dX4_shortest_44 (by decide) ?_
            exact ih5 (j + 1) _ (by omega) (by omega) (by rw [ansN_s]; first | (rw [if_pos c17]; omega) | (rw [if_neg c17, if_neg (by rw [c26]; decide)]; omega) | (rw [if_neg c17, if_pos c26]))
          · skip
            refine ww_iload3 C dX4_shortest_29 ?_
            refine ww_aload0 C dX4_shortest_30 ?_
            refine ww_iload1 C dX4_shortest_31 ?_
            refine ww_iload4 C dX4_shortest_32 ?_
            refine ww_cV2v C hN.1 rfl (c_alike g n w hN hi c11) kV_X4_68 ⟨Nat.le_of_ble_eq_true rfl, Nat.le_of_ble_eq_true rfl⟩ ⟨rfl, rfl⟩ ⟨Nat.le_of_ble_eq_true rfl, Nat.le_of_ble_eq_true rfl⟩ (Nat.le_of_ble_eq_true rfl) dX4_shortest_34 ?_
            refine ww_maxN C (by have := ansN_le (K := K) (S := S) hM j s i; have := alikeN_le K M S i j; omega) ml_X4_42 kj_max_s kj_math_i kj_max_c ⟨Nat.le_of_ble_eq_true rfl, Nat.le_of_ble_eq_true rfl⟩ ⟨Nat.le_of_ble_eq_true rfl, Nat.le_of_ble_eq_true rfl⟩ dX4_shortest_37 ?_
            refine ww_istore3 C dX4_shortest_40 (by decide) rfl ?_
            refine ww_iincN4 C dX4_shortest_41 (by decide) rfl ?_
            refine ww_goto C (tgt := 5) dX4_shortest_44 (by decide) ?_
            exact ih5 (j + 1) _ (by omega) (by omega) (by rw [ansN_s]; first | (rw [if_pos c17]; omega) | (rw [if_neg c17, if_neg (by rw [c26]; decide)]; omega) | (rw [if_neg c17, if_pos c26]))
  exact lp5 (p + 1) 0 0 (by omega) (by omega) rfl
theorem soN_t {f : Nat → Option Nat} {b : Nat → Bool} {i a v : Nat} (h : soN f b i = some a) (hb : b i = true) (hv : f i = some v) : soN f b (i + 1) = some (a + v) := by
  unfold soN
  rw [h]
  dsimp only
  rw [if_pos hb, hv]
theorem soN_f {f : Nat → Option Nat} {b : Nat → Bool} {i a : Nat} (h : soN f b i = some a) (hb : b i = false) : soN f b (i + 1) = some a := by
  unfold soN
  rw [h]
  dsimp only
  rw [if_neg (by rw [hb]; decide)]
theorem soN_x {f : Nat → Option Nat} {b : Nat → Bool} {i p a : Nat} (h : soN f b i = some a) (hb : b i = true) (hv : f i = none) (hp : i < p) : soN f b p = none := by
  have e : soN f b (i + 1) = none := by
    unfold soN
    rw [h]
    dsimp only
    rw [if_pos hb, hv]
  have := soN_none e (p - (i + 1))
  rwa [show i + 1 + (p - (i + 1)) = p by omega] at this
theorem oI_ne {v : Nat} (h : v < 2147483648) : ¬ nI v = -4 := fun e => by
  have := congrArg Int32.toInt e
  rw [nI_toInt h] at this
  exact absurd this (by show ¬ (v : Int) = -4; omega)
theorem c_sumOfShortest (g : Gx) (n : Nat) (w : Wd) {k : Nat} {K M S : Nat → Nat} {p : Nat} (hN : NR w k K M S p) {s : Nat} (hs : s < 2147483648) : CT g yX4_sumOfShortest cX4_sumOfShortest 5 (some .int) rm_X4_sumOfShortest n n w [.ref k, .int (nI s)] (Rv (.int (oI (soN (shortN K M S p s) (tb s) p))) w) := by
  have hp := hN.2.2.2.2.1
  have hM := hN.2.2.2.2.2.2.1
  have hb : ∀ i v, shortN K M S p s i = some v → v ≤ 20 := fun i v h => (shortN_le hM h).2
  refine CT.start [some (.ref k), some (.int (nI s)), none, none, none] (by decide +kernel) rfl (Nat.le_of_ble_eq_true rfl) (fun x C hnm => ?_)
  refine ww_iconst C (v := nI 0) dX4_sumOfShortest_0 (by decide) ?_
  refine ww_istore2 C dX4_sumOfShortest_1 (by decide) rfl ?_
  refine ww_iconst C (v := nI 0) dX4_sumOfShortest_2 (by decide) ?_
  refine ww_istore3 C dX4_sumOfShortest_3 (by decide) rfl ?_
  have lp4 : ∀ (m : Nat) (i a : Nat) (z : Option Value), i ≤ p → p < i + m → soN (shortN K M S p s) (tb s) i = some a → WW g x 5 0 0 n w 4 [some (.ref k), some (.int (nI s)), some (.int (nI a)), some (.int (nI i)), z] [] := by
    intro m
    induction m with
    | zero =>
      intro i a z hi0 hm ha
      exact absurd hm (by omega)
    | succ m ih4 =>
      intro i a z hi0 hm ha
      refine ww_iload3 C dX4_sumOfShortest_4 ?_
      refine ww_aload0 C dX4_sumOfShortest_5 ?_
      refine ww_getf C fl_X4_21 hN.1 rfl dX4_sumOfShortest_6 ?_
      refine ww_icmpgeN C (by omega) (tgt := 49) dX4_sumOfShortest_9 (by decide) (fun c9 => ?_) (fun c9 => ?_)
      · skip
        have e : p = i := by omega
        subst e
        refine ww_iload2 C dX4_sumOfShortest_49 ?_
        exact ww_ri C dX4_sumOfShortest_50 rfl ⟨Nat.le_of_ble_eq_true rfl, Nat.le_of_ble_eq_true rfl⟩ (by rw [ha]; rfl) rfl
      · skip
        refine ww_iload3 C dX4_sumOfShortest_12 ?_
        refine ww_iload1 C dX4_sumOfShortest_13 ?_
        refine ww_cSN2v C (c_isOf g n w _ _ (by omega) hs) kSN_X4_64 ⟨Nat.le_of_ble_eq_true rfl, Nat.le_of_ble_eq_true rfl⟩ ⟨rfl, rfl⟩ ⟨Nat.le_of_ble_eq_true rfl, Nat.le_of_ble_eq_true rfl⟩ (Nat.le_of_ble_eq_true rfl) dX4_sumOfShortest_14 ?_
        refine ww_ifeqB C (tgt := 43) dX4_sumOfShortest_17 (by decide) (fun c17 => ?_) (fun c17 => ?_)
        · skip
          refine ww_iincN3 C dX4_sumOfShortest_43 (by decide) rfl ?_
          refine ww_goto C (tgt := 4) dX4_sumOfShortest_46 (by decide) ?_
          exact ih4 (i + 1) a _ (by omega) (by omega) (soN_f ha c17)
        · skip
          refine ww_aload0 C dX4_sumOfShortest_20 ?_
          refine ww_iload3 C dX4_sumOfShortest_21 ?_
          refine ww_iload1 C dX4_sumOfShortest_22 ?_
          refine ww_cV2v C hN.1 rfl (c_shortest g n w hN (by omega) hs) kV_X4_71 ⟨Nat.le_of_ble_eq_true rfl, Nat.le_of_ble_eq_true rfl⟩ ⟨rfl, rfl⟩ ⟨Nat.le_of_ble_eq_true rfl, Nat.le_of_ble_eq_true rfl⟩ (Nat.le_of_ble_eq_true rfl) dX4_sumOfShortest_23 ?_
          rcases hq : shortN K M S p s i with _ | v
          · skip
            refine ww_istore4 C dX4_sumOfShortest_26 (by decide) rfl ?_
            refine ww_iload4 C dX4_sumOfShortest_28 ?_
            skip
            refine ww_bipush C (v := -4) dX4_sumOfShortest_30 (by decide) ?_
            refine ww_icmpne C (tgt := 38) dX4_sumOfShortest_32 (by decide) (fun c32 => ?_) (fun c32 => ?_)
            · skip
              exact absurd rfl c32
            · skip
              refine ww_bipush C (v := -4) dX4_sumOfShortest_35 (by decide) ?_
              exact ww_ri C dX4_sumOfShortest_37 rfl ⟨Nat.le_of_ble_eq_true rfl, Nat.le_of_ble_eq_true rfl⟩ (by rw [soN_x ha c17 hq (by omega)]; rfl) rfl
          · skip
            refine ww_topi (show oI (some v) = nI v from rfl) ?_
            have hv := shortN_le hM hq
            refine ww_istore4 C dX4_sumOfShortest_26 (by decide) rfl ?_
            refine ww_iload4 C dX4_sumOfShortest_28 ?_
            skip
            refine ww_bipush C (v := -4) dX4_sumOfShortest_30 (by decide) ?_
            refine ww_icmpne C (tgt := 38) dX4_sumOfShortest_32 (by decide) (fun c32 => ?_) (fun c32 => ?_)
            · skip
              refine ww_iload2 C dX4_sumOfShortest_38 ?_
              refine ww_iload4 C dX4_sumOfShortest_39 ?_
              refine ww_iaddN C dX4_sumOfShortest_41 ?_
              refine ww_istore2 C dX4_sumOfShortest_42 (by decide) rfl ?_
              refine ww_iincN3 C dX4_sumOfShortest_43 (by decide) rfl ?_
              refine ww_goto C (tgt := 4) dX4_sumOfShortest_46 (by decide) ?_
              exact ih4 (i + 1) (a + v) _ (by omega) (by omega) (soN_t ha c17 hq)
            · skip
              exact absurd c32 (oI_ne (by omega))
  exact lp4 (p + 1) 0 0 none (by omega) (by omega) rfl
theorem cnN_t {b : Nat → Bool} {i : Nat} (h : b i = true) : cnN b (i + 1) = cnN b i + 1 := by show (if b i = true then _ else _) = _; rw [if_pos h]
theorem cnN_f {b : Nat → Bool} {i : Nat} (h : b i = false) : cnN b (i + 1) = cnN b i := by show (if b i = true then _ else _) = _; rw [if_neg (by rw [h]; decide)]
theorem c_numberOfShort (g : Gx) (n : Nat) (w : Wd) {k : Nat} {K M S : Nat → Nat} {p : Nat} (hN : NR w k K M S p) {s : Nat} (hs : s < 2147483648) : CT g yX4_numberOfShort cX4_numberOfShort 4 (some .int) rm_X4_numberOfShort n n w [.ref k, .int (nI s)] (Rv (.int (nI (cnN (fun i => tb s i && (shortN K M S p s i).isSome) p))) w) := by
  have hp := hN.2.2.2.2.1
  have hM := hN.2.2.2.2.2.2.1
  refine CT.start [some (.ref k), some (.int (nI s)), none, none] (by decide +kernel) rfl (Nat.le_of_ble_eq_true rfl) (fun x C hnm => ?_)
  refine ww_iconst C (v := nI 0) dX4_numberOfShort_0 (by decide) ?_
  refine ww_istore2 C dX4_numberOfShort_1 (by decide) rfl ?_
  refine ww_iconst C (v := nI 0) dX4_numberOfShort_2 (by decide) ?_
  refine ww_istore3 C dX4_numberOfShort_3 (by decide) rfl ?_
  have lp4 : ∀ (m : Nat) (i c : Nat), i ≤ p → p < i + m → c = cnN (fun i => tb s i && (shortN K M S p s i).isSome) i → WW g x 4 0 0 n w 4 [some (.ref k), some (.int (nI s)), some (.int (nI c)), some (.int (nI i))] [] := by
    intro m
    induction m with
    | zero =>
      intro i c hi0 hm hc
      exact absurd hm (by omega)
    | succ m ih4 =>
      intro i c hi0 hm hc
      refine ww_iload3 C dX4_numberOfShort_4 ?_
      refine ww_aload0 C dX4_numberOfShort_5 ?_
      refine ww_getf C fl_X4_21 hN.1 rfl dX4_numberOfShort_6 ?_
      refine ww_icmpgeN C (by omega) (tgt := 40) dX4_numberOfShort_9 (by decide) (fun c9 => ?_) (fun c9 => ?_)
      · skip
        have e : p = i := by omega
        subst e
        refine ww_iload2 C dX4_numberOfShort_40 ?_
        exact ww_ri C dX4_numberOfShort_41 rfl ⟨Nat.le_of_ble_eq_true rfl, Nat.le_of_ble_eq_true rfl⟩ (by rw [hc]) rfl
      · skip
        refine ww_iload3 C dX4_numberOfShort_12 ?_
        refine ww_iload1 C dX4_numberOfShort_13 ?_
        refine ww_cSN2v C (c_isOf g n w _ _ (by omega) hs) kSN_X4_64 ⟨Nat.le_of_ble_eq_true rfl, Nat.le_of_ble_eq_true rfl⟩ ⟨rfl, rfl⟩ ⟨Nat.le_of_ble_eq_true rfl, Nat.le_of_ble_eq_true rfl⟩ (Nat.le_of_ble_eq_true rfl) dX4_numberOfShort_14 ?_
        refine ww_ifeqB C (tgt := 34) dX4_numberOfShort_17 (by decide) (fun c17 => ?_) (fun c17 => ?_)
        · skip
          refine ww_iincN3 C dX4_numberOfShort_34 (by decide) rfl ?_
          refine ww_goto C (tgt := 4) dX4_numberOfShort_37 (by decide) ?_
          exact ih4 (i + 1) c (by omega) (by omega) (by rw [hc, cnN_f (by simp [c17])])
        · skip
          refine ww_aload0 C dX4_numberOfShort_20 ?_
          refine ww_iload3 C dX4_numberOfShort_21 ?_
          refine ww_iload1 C dX4_numberOfShort_22 ?_
          refine ww_cV2v C hN.1 rfl (c_shortest g n w hN (by omega) hs) kV_X4_71 ⟨Nat.le_of_ble_eq_true rfl, Nat.le_of_ble_eq_true rfl⟩ ⟨rfl, rfl⟩ ⟨Nat.le_of_ble_eq_true rfl, Nat.le_of_ble_eq_true rfl⟩ (Nat.le_of_ble_eq_true rfl) dX4_numberOfShort_23 ?_
          rcases hq : shortN K M S p s i with _ | v
          · skip
            refine ww_bipush C (v := -4) dX4_numberOfShort_26 (by decide) ?_
            refine ww_icmpeq C (tgt := 34) dX4_numberOfShort_28 (by decide) (fun c28 => ?_) (fun c28 => ?_)
            · skip
              refine ww_iincN3 C dX4_numberOfShort_34 (by decide) rfl ?_
              refine ww_goto C (tgt := 4) dX4_numberOfShort_37 (by decide) ?_
              exact ih4 (i + 1) c (by omega) (by omega) (by rw [hc, cnN_f (by simp [hq])])
            · skip
              exact absurd rfl c28
          · skip
            refine ww_topi (show oI (some v) = nI v from rfl) ?_
            have hv := shortN_le hM hq
            refine ww_bipush C (v := -4) dX4_numberOfShort_26 (by decide) ?_
            refine ww_icmpeq C (tgt := 34) dX4_numberOfShort_28 (by decide) (fun c28 => ?_) (fun c28 => ?_)
            · skip
              exact absurd c28 (oI_ne (by omega))
            · skip
              refine ww_iincN2 C dX4_numberOfShort_31 (by decide) rfl ?_
              refine ww_iincN3 C dX4_numberOfShort_34 (by decide) rfl ?_
              refine ww_goto C (tgt := 4) dX4_numberOfShort_37 (by decide) ?_
              exact ih4 (i + 1) (c + 1) (by omega) (by omega) (by rw [hc, cnN_t (by simp [c17, hq])])
  exact lp4 (p + 1) 0 0 (by omega) (by omega) rfl
