section NUM
variable {t : Nat → Nat} {len pl sep : Nat}
theorem num_some {lo hi : Nat} {r : Nat × Nat} (h : numR t len pl sep 0 999 = some r) : numR t len pl sep lo hi = if lo ≤ r.1 ∧ r.1 ≤ hi then some r else none := by
  unfold numR at h ⊢
  split at h
  · cases h
  · rename_i c1
    split at h
    · rename_i c2
      split at h
      · cases h
        rw [if_neg c1, if_pos c2]
      · cases h
    · cases h
theorem num_none {lo hi : Nat} (h : numR t len pl sep 0 999 = none) : numR t len pl sep lo hi = none := by
  have hv := vlN_le (t := t) (pl := pl) (len := len) (preN (fun q => dgB t len 57 (pl + q)) 3) (fun q hq => preN_all _ 3 q hq)
  have hv4 : 10 ^ preN (fun q => dgB t len 57 (pl + q)) 3 ≤ 1000 := ten_le (preN_le _ 3)
  unfold numR at h ⊢
  split at h
  · rename_i c1
    rw [if_pos c1]
  · rename_i c1
    split at h
    · rename_i c2
      split at h
      · cases h
      · rename_i c3
        exact absurd ⟨Nat.zero_le _, by omega⟩ c3
    · rename_i c2
      rw [if_neg c1, if_neg c2]
theorem fg1_no (h : fgB t len pl 1 sep = false) : numR t len pl sep 0 999 = none := by
  unfold fgB at h
  rw [if_pos rfl] at h
  revert h
  cases numR t len pl sep 0 999 <;> simp
theorem it2_no {lo hi lo2 hi2 : Nat} (h : fgB t len pl 2 sep = false) : numR t len pl 44 lo hi = none ∨ ∃ r, numR t len pl 44 lo hi = some r ∧ numR t len r.2 sep lo2 hi2 = none := by
  unfold fgB at h
  rw [if_neg (by decide)] at h
  rcases h1 : numR t len pl 44 0 999 with _ | r
  · exact Or.inl (num_none h1)
  · rw [h1] at h
    have h : (numR t len r.2 sep 0 999).isSome = false := h
    have h2 : numR t len r.2 sep 0 999 = none := by
      revert h
      cases numR t len r.2 sep 0 999 <;> simp
    rw [num_some h1]
    split
    · exact Or.inr ⟨r, rfl, num_none h2⟩
    · exact Or.inl rfl
theorem num_in {lo hi a P : Nat} (h : numR t len pl sep 0 999 = some (a, P)) (h1 : lo ≤ a) (h2 : a ≤ hi) : numR t len pl sep lo hi = some (a, P) := by rw [num_some h, if_pos ⟨h1, h2⟩]
theorem num_out {lo hi a P : Nat} (h : numR t len pl sep 0 999 = some (a, P)) (h1 : ¬ (lo ≤ a ∧ a ≤ hi)) : numR t len pl sep lo hi = none := by rw [num_some h, if_neg h1]
theorem nam_s {P f : Nat} (ha : ∀ q, q < f → dgB t len 53 (P + q) = true) (h1 : ¬ f = 0) (h6 : f ≤ 6) (hst : 6 ≤ f ∨ dgB t len 53 (P + f) = false) (hb : btN t len (P + f) = 44) : namR t len P = some (f, P + f + 1) := by
  have hlt : P + f < len ∧ t (P + f) = 44 := by
    unfold btN at hb
    split at hb
    · rename_i c; exact ⟨c, hb⟩
    · omega
  have hk : preN (fun q => dgB t len 53 (P + q)) 6 = f := preN_eq ha (by
    by_cases c : f = 6
    · exact Or.inl c
    · exact Or.inr ⟨by omega, hst.resolve_left (by omega)⟩)
  unfold namR
  rw [hk, if_neg h1, if_pos hlt]
theorem nam_n {P f : Nat} (ha : ∀ q, q < f → dgB t len 53 (P + q) = true) (h6 : f ≤ 6) (hst : 6 ≤ f ∨ dgB t len 53 (P + f) = false) (hno : f = 0 ∨ ¬ btN t len (P + f) = 44) : namR t len P = none := by
  have hk : preN (fun q => dgB t len 53 (P + q)) 6 = f := preN_eq ha (by
    by_cases c : f = 6
    · exact Or.inl c
    · exact Or.inr ⟨by omega, hst.resolve_left (by omega)⟩)
  unfold namR
  rw [hk]
  by_cases c0 : f = 0
  · rw [if_pos c0]
  · rw [if_neg c0, if_neg]
    rintro ⟨a, b⟩
    apply hno.resolve_left c0
    unfold btN
    rw [if_pos a]
    exact b
variable {h : Hs} {a b P P1 P2 P3 f x y : Nat}
theorem itP_1 (e : numR t len pl 44 0 3 = none) : itP t len pl h = none := by unfold itP; rw [e]
theorem itP_2 (e1 : numR t len pl 44 0 3 = some (a, P1)) (e : namR t len P1 = none) : itP t len pl h = none := by
  unfold itP; rw [e1]; show (match namR t len P1 with | none => none | some r2 => _) = none; rw [e]
theorem itP_3 (e1 : numR t len pl 44 0 3 = some (a, P1)) (e2 : namR t len P1 = some (f, P2)) (e : numR t len P2 44 0 99 = none ∨ ∃ r, numR t len P2 44 0 99 = some r ∧ numR t len r.2 59 0 9 = none) : itP t len pl h = none := by
  unfold itP; rw [e1]; dsimp only; rw [e2]; dsimp only
  rcases e with e | ⟨r, e3, e4⟩
  · rw [e]
  · rw [e3]; dsimp only; rw [e4]
theorem itP_8 (e : h.2.2.2.1 = 8) : itP t len pl h = none := by
  unfold itP
  rcases numR t len pl 44 0 3 with _ | r1
  · rfl
  · dsimp only
    rcases namR t len r1.2 with _ | r2
    · rfl
    · dsimp only
      rcases numR t len r2.2 44 0 99 with _ | r3
      · rfl
      · dsimp only
        rcases numR t len r3.2 59 0 9 with _ | r4
        · rfl
        · dsimp only
          rw [if_neg (by omega)]
theorem itP_s (e1 : numR t len pl 44 0 3 = some (a, P1)) (e2 : namR t len P1 = some (f, P2)) (e3 : numR t len P2 44 0 99 = some (x, P3)) (e4 : numR t len P3 59 0 9 = some (y, P)) (e : h.2.2.2.1 < 8) : itP t len pl h = some (P, (va_up h.1 h.2.2.2.1 a, va_up h.2.1 h.2.2.2.1 f, enS h.2.2.1 h.2.2.2.1 (fun j => t (P1 + j) - 48) f, h.2.2.2.1 + 1, va_up h.2.2.2.2.1 h.2.2.2.1 x, va_up h.2.2.2.2.2.1 h.2.2.2.1 y, h.2.2.2.2.2.2)) := by
  unfold itP; rw [e1]; dsimp only; rw [e2]; dsimp only; rw [e3]; dsimp only; rw [e4]; dsimp only; rw [if_pos e]
theorem itL_n (e : numR t len pl 44 0 5 = none ∨ ∃ r, numR t len pl 44 0 5 = some r ∧ numR t len r.2 59 0 5 = none) : itL t len pl h = none := by
  unfold itL
  rcases e with e | ⟨r, e3, e4⟩
  · rw [e]
  · rw [e3]; dsimp only; rw [e4]
theorem itL_s (e3 : numR t len pl 44 0 5 = some (a, P1)) (e4 : numR t len P1 59 0 5 = some (b, P)) : itL t len pl h = some (P, (h.1, h.2.1, h.2.2.1, h.2.2.2.1, h.2.2.2.2.1, h.2.2.2.2.2.1, va_up h.2.2.2.2.2.2.1 a b, h.2.2.2.2.2.2.2)) := by
  unfold itL; rw [e3]; dsimp only; rw [e4]
theorem itK_n (e : numR t len pl 59 0 5 = none) : itK t len pl h = none := by unfold itK; rw [e]
theorem itK_s (e3 : numR t len pl 59 0 5 = some (a, P)) : itK t len pl h = some (P, (h.1, h.2.1, h.2.2.1, h.2.2.2.1, h.2.2.2.2.1, h.2.2.2.2.2.1, h.2.2.2.2.2.2.1, va_up h.2.2.2.2.2.2.2.1 a 1, h.2.2.2.2.2.2.2.2)) := by
  unfold itK; rw [e3]
theorem itS_n (e : numR t len pl 44 0 5 = none ∨ ∃ r, numR t len pl 44 0 5 = some r ∧ numR t len r.2 59 1 9 = none) : itS t len pl h = none := by
  unfold itS
  rcases e with e | ⟨r, e3, e4⟩
  · rw [e]
  · rw [e3]; dsimp only; rw [e4]
theorem itS_s (e3 : numR t len pl 44 0 5 = some (a, P1)) (e4 : numR t len P1 59 1 9 = some (b, P)) : itS t len pl h = some (P, (h.1, h.2.1, h.2.2.1, h.2.2.2.1, h.2.2.2.2.1, h.2.2.2.2.2.1, h.2.2.2.2.2.2.1, h.2.2.2.2.2.2.2.1, va_up h.2.2.2.2.2.2.2.2.1 a b, h.2.2.2.2.2.2.2.2.2)) := by
  unfold itS; rw [e3]; dsimp only; rw [e4]
theorem itB_n (e : numR t len pl 44 1 12 = none ∨ ∃ r, numR t len pl 44 1 12 = some r ∧ numR t len r.2 59 0 20 = none) : itB t len pl h = none := by
  unfold itB
  rcases e with e | ⟨r, e3, e4⟩
  · rw [e]
  · rw [e3]; dsimp only; rw [e4]
theorem itB_s (e3 : numR t len pl 44 1 12 = some (a, P1)) (e4 : numR t len P1 59 0 20 = some (b, P)) : itB t len pl h = some (P, (h.1, h.2.1, h.2.2.1, h.2.2.2.1, h.2.2.2.2.1, h.2.2.2.2.2.1, h.2.2.2.2.2.2.1, h.2.2.2.2.2.2.2.1, h.2.2.2.2.2.2.2.2.1, a, b, h.2.2.2.2.2.2.2.2.2.2.2)) := by
  unfold itB; rw [e3]; dsimp only; rw [e4]
theorem itM_n (e : numR t len pl 59 0 9 = none) : itM t len pl h = none := by unfold itM; rw [e]
theorem itM_s (e3 : numR t len pl 59 0 9 = some (a, P)) : itM t len pl h = some (P, (h.1, h.2.1, h.2.2.1, h.2.2.2.1, h.2.2.2.2.1, h.2.2.2.2.2.1, h.2.2.2.2.2.2.1, h.2.2.2.2.2.2.2.1, h.2.2.2.2.2.2.2.2.1, h.2.2.2.2.2.2.2.2.2.1, h.2.2.2.2.2.2.2.2.2.2.1, a)) := by
  unfold itM; rw [e3]
end NUM
/-- a store that is not seen -/
theorem Sm.st {B A : Nat → Nat → Nat} {a k v : Nat} (e : B a = va_up (A a) k v) (o : ∀ b, ¬ b = a → B b = A b) (hs : (a = 1 ∧ k = 1) ∨ a = 2 ∨ a = 3 ∨ a = 4 ∨ ((a = 5 ∨ a = 6) ∧ 8 ≤ k) ∨ ((a = 7 ∨ a = 8 ∨ a = 9) ∧ 6 ≤ k) ∨ (a = 10 ∧ 3 ≤ k) ∨ 16 ≤ a) : Sm B A := by
  have key : ∀ b j, ¬ (b = a ∧ j = k) → B b j = A b j := by
    intro b j h
    by_cases c : b = a
    · subst c
      exact up_no e (fun ej => h ⟨rfl, ej⟩)
    · rw [o b c]
  exact ⟨funext (fun j => key 0 j (by omega)), key 1 0 (by omega), fun i hi => ⟨key 5 i (by omega), key 6 i (by omega)⟩, fun d hd => ⟨key 7 d (by omega), key 8 d (by omega), key 9 d (by omega)⟩, fun k2 hk => key 10 k2 (by omega), fun j _ => ⟨key 11 j (by omega), key 12 j (by omega)⟩, fun j _ => key 13 j (by omega), funext (fun j => key 14 j (by omega)), funext (fun j => key 15 j (by omega))⟩
/-- the hill that is told in the model's book 1 -/
def DR (A : Nat → Nat → Nat) (h : Hs) : Prop := A 1 1 = h.2.2.2.1 ∧ h.2.2.2.1 ≤ 8 ∧ (∀ i, i < h.2.2.2.1 → A 2 (8 + i) = h.1 i ∧ A 3 (8 + i) = h.2.1 i ∧ A 5 (8 + i) = h.2.2.2.2.1 i ∧ A 6 (8 + i) = h.2.2.2.2.2.1 i ∧ (1 ≤ h.2.1 i ∧ h.2.1 i ≤ 6) ∧ ∀ q, q < h.2.1 i → A 4 (6 * (8 + i) + q) = h.2.2.1 (10 * i + q)) ∧ (∀ d, d < 6 → A 7 (6 + d) = h.2.2.2.2.2.2.1 d ∧ A 8 (6 + d) = h.2.2.2.2.2.2.2.1 d ∧ A 9 (6 + d) = h.2.2.2.2.2.2.2.2.1 d) ∧ A 10 3 = h.2.2.2.2.2.2.2.2.2.1 ∧ A 10 4 = h.2.2.2.2.2.2.2.2.2.2.1 ∧ A 10 5 = h.2.2.2.2.2.2.2.2.2.2.2 ∧ 1 ≤ h.2.2.2.2.2.2.2.2.2.1
section DRS
variable {B A : Nat → Nat → Nat} {h : Hs}
theorem DR.told (q : DR A h) (e : ∀ b, ¬ b = 16 → B b = A b) : DR B h := by
  unfold DR
  rw [e 1 (by decide), e 2 (by decide), e 3 (by decide), e 4 (by decide), e 5 (by decide), e 6 (by decide), e 7 (by decide), e 8 (by decide), e 9 (by decide), e 10 (by decide)]
  exact q
theorem DR.wo {a v : Nat} (q : DR A h) (e : B 7 = va_up (A 7) (6 + a) v) (o : ∀ b, ¬ b = 7 → B b = A b) : DR B (h.1, h.2.1, h.2.2.1, h.2.2.2.1, h.2.2.2.2.1, h.2.2.2.2.2.1, va_up h.2.2.2.2.2.2.1 a v, h.2.2.2.2.2.2.2) := by
  obtain ⟨q1, q2, q3, q4, q5⟩ := q
  unfold DR
  rw [o 1 (by decide), o 2 (by decide), o 3 (by decide), o 4 (by decide), o 5 (by decide), o 6 (by decide), o 8 (by decide), o 9 (by decide), o 10 (by decide)]
  refine ⟨q1, q2, q3, fun d hd => ⟨?_, (q4 d hd).2.1, (q4 d hd).2.2⟩, q5⟩
  show B 7 (6 + d) = va_up h.2.2.2.2.2.2.1 a v d
  by_cases c : d = a
  · rw [c, va_upd_self]; exact up_at e rfl
  · rw [va_upd_ne _ _ c]; exact (up_no e (by omega)).trans (q4 d hd).1
theorem DR.sh {a : Nat} (q : DR A h) (e : B 8 = va_up (A 8) (6 + a) 1) (o : ∀ b, ¬ b = 8 → B b = A b) : DR B (h.1, h.2.1, h.2.2.1, h.2.2.2.1, h.2.2.2.2.1, h.2.2.2.2.2.1, h.2.2.2.2.2.2.1, va_up h.2.2.2.2.2.2.2.1 a 1, h.2.2.2.2.2.2.2.2) := by
  obtain ⟨q1, q2, q3, q4, q5⟩ := q
  unfold DR
  rw [o 1 (by decide), o 2 (by decide), o 3 (by decide), o 4 (by decide), o 5 (by decide), o 6 (by decide), o 7 (by decide), o 9 (by decide), o 10 (by decide)]
  refine ⟨q1, q2, q3, fun d hd => ⟨(q4 d hd).1, ?_, (q4 d hd).2.2⟩, q5⟩
  show B 8 (6 + d) = va_up h.2.2.2.2.2.2.2.1 a 1 d
  by_cases c : d = a
  · rw [c, va_upd_self]; exact up_at e rfl
  · rw [va_upd_ne _ _ c]; exact (up_no e (by omega)).trans (q4 d hd).2.1
theorem DR.be {a v : Nat} (q : DR A h) (e : B 9 = va_up (A 9) (6 + a) v) (o : ∀ b, ¬ b = 9 → B b = A b) : DR B (h.1, h.2.1, h.2.2.1, h.2.2.2.1, h.2.2.2.2.1, h.2.2.2.2.2.1, h.2.2.2.2.2.2.1, h.2.2.2.2.2.2.2.1, va_up h.2.2.2.2.2.2.2.2.1 a v, h.2.2.2.2.2.2.2.2.2) := by
  obtain ⟨q1, q2, q3, q4, q5⟩ := q
  unfold DR
  rw [o 1 (by decide), o 2 (by decide), o 3 (by decide), o 4 (by decide), o 5 (by decide), o 6 (by decide), o 7 (by decide), o 8 (by decide), o 10 (by decide)]
  refine ⟨q1, q2, q3, fun d hd => ⟨(q4 d hd).1, (q4 d hd).2.1, ?_⟩, q5⟩
  show B 9 (6 + d) = va_up h.2.2.2.2.2.2.2.2.1 a v d
  by_cases c : d = a
  · rw [c, va_upd_self]; exact up_at e rfl
  · rw [va_upd_ne _ _ c]; exact (up_no e (by omega)).trans (q4 d hd).2.2
theorem DR.bv {B1 : Nat → Nat → Nat} {a v : Nat} (q : DR A h) (ha : 1 ≤ a) (e1 : B1 10 = va_up (A 10) 3 a) (o1 : ∀ b, ¬ b = 10 → B1 b = A b) (e : B 10 = va_up (B1 10) 4 v) (o : ∀ b, ¬ b = 10 → B b = B1 b) : DR B (h.1, h.2.1, h.2.2.1, h.2.2.2.1, h.2.2.2.2.1, h.2.2.2.2.2.1, h.2.2.2.2.2.2.1, h.2.2.2.2.2.2.2.1, h.2.2.2.2.2.2.2.2.1, a, v, h.2.2.2.2.2.2.2.2.2.2.2) := by
  obtain ⟨q1, q2, q3, q4, q5, q6, q7, q8⟩ := q
  have o : ∀ b, ¬ b = 10 → B b = A b := fun b hb => (o b hb).trans (o1 b hb)
  unfold DR
  rw [o 1 (by decide), o 2 (by decide), o 3 (by decide), o 4 (by decide), o 5 (by decide), o 6 (by decide), o 7 (by decide), o 8 (by decide), o 9 (by decide)]
  exact ⟨q1, q2, q3, q4, (up_no e (by decide)).trans (up_at e1 rfl), up_at e rfl, (up_no e (by decide)).trans ((up_no e1 (by decide)).trans q7), ha⟩
theorem DR.mi {a : Nat} (q : DR A h) (e : B 10 = va_up (A 10) 5 a) (o : ∀ b, ¬ b = 10 → B b = A b) : DR B (h.1, h.2.1, h.2.2.1, h.2.2.2.1, h.2.2.2.2.1, h.2.2.2.2.2.1, h.2.2.2.2.2.2.1, h.2.2.2.2.2.2.2.1, h.2.2.2.2.2.2.2.2.1, h.2.2.2.2.2.2.2.2.2.1, h.2.2.2.2.2.2.2.2.2.2.1, a) := by
  obtain ⟨q1, q2, q3, q4, q5, q6, q7, q8⟩ := q
  unfold DR
  rw [o 1 (by decide), o 2 (by decide), o 3 (by decide), o 4 (by decide), o 5 (by decide), o 6 (by decide), o 7 (by decide), o 8 (by decide), o 9 (by decide)]
  exact ⟨q1, q2, q3, q4, (up_no e (by decide)).trans q5, (up_no e (by decide)).trans q6, up_at e rfl, q8⟩
/-- one person more -/
theorem DR.per {t : Nat → Nat} {P1 a f x y : Nat} (q : DR A h) (hp : h.2.2.2.1 < 8) (h1 : 1 ≤ f) (h6 : f ≤ 6) (e1 : B 1 1 = h.2.2.2.1 + 1) (e2 : B 2 = va_up (A 2) (8 + h.2.2.2.1) a) (e3 : B 3 = va_up (A 3) (8 + h.2.2.2.1) f) (e4 : ∀ j, j < 6 * (8 + h.2.2.2.1) → B 4 j = A 4 j) (e5 : ∀ j, j < f → B 4 (6 * (8 + h.2.2.2.1) + j) = t (P1 + j) - 48) (e6 : B 5 = va_up (A 5) (8 + h.2.2.2.1) x) (e7 : B 6 = va_up (A 6) (8 + h.2.2.2.1) y) (e8 : B 7 = A 7) (e9 : B 8 = A 8) (e10 : B 9 = A 9) (e11 : B 10 = A 10) : DR B (va_up h.1 h.2.2.2.1 a, va_up h.2.1 h.2.2.2.1 f, enS h.2.2.1 h.2.2.2.1 (fun j => t (P1 + j) - 48) f, h.2.2.2.1 + 1, va_up h.2.2.2.2.1 h.2.2.2.1 x, va_up h.2.2.2.2.2.1 h.2.2.2.1 y, h.2.2.2.2.2.2) := by
  obtain ⟨q1, q2, q3, q4, q5⟩ := q
  unfold DR
  rw [e8, e9, e10, e11]
  refine ⟨e1, hp, fun i hi => ?_, q4, q5⟩
  have hi : i < h.2.2.2.1 + 1 := hi
  dsimp only
  by_cases c : i = h.2.2.2.1
  · subst c
    rw [va_upd_self, va_upd_self, va_upd_self, va_upd_self]
    refine ⟨up_at e2 rfl, up_at e3 rfl, up_at e6 rfl, up_at e7 rfl, ⟨h1, h6⟩, fun j hj => ?_⟩
    rw [e5 j hj]
    unfold enS
    rw [if_pos (by omega), Nat.add_sub_cancel_left]
  · rw [va_upd_ne _ _ c, va_upd_ne _ _ c, va_upd_ne _ _ c, va_upd_ne _ _ c]
    obtain ⟨r1, r2, r3, r4, r5, r6⟩ := q3 i (by omega)
    refine ⟨(up_no e2 (by omega)).trans r1, (up_no e3 (by omega)).trans r2, (up_no e6 (by omega)).trans r3, (up_no e7 (by omega)).trans r4, r5, fun j hj => ?_⟩
    rw [e4 _ (by omega), r6 j hj]
    unfold enS
    rw [if_neg (by omega)]
end DRS
