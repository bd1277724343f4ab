/-- breaths and what the last holds: a packing's code, nothing packed or something -/
def Vd (b x : Nat) : Prop := x = b ∨ (16 ≤ x ∧ 1 ≤ x % 16 ∧ x % 16 ≤ b)
/-- the breaths that a packing needs behind room r -/
def fR (r x : Nat) : Nat := x / 16 - (if x % 16 ≤ r then 1 else 0)
def bfN (b lo r : Nat) : Nat := if lo ≤ r then 0 else (lo + b - 1) / b
def rbN (b lo r : Nat) : Nat := if lo ≤ r then r - lo else if lo ≤ b then b - lo else 0
theorem dv_1 {lo b : Nat} (h1 : 1 ≤ lo) (h2 : lo ≤ b) : (lo + b - 1) / b = 1 := Nat.div_eq_of_lt_le (by omega) (by omega)
theorem Vd.pk {b lo x : Nat} (hb1 : 1 ≤ b) (hb : b ≤ 12) (hlo : 1 ≤ lo) (h : Vd b x) : 16 ≤ pkd b lo x ∧ 1 ≤ pkd b lo x % 16 ∧ pkd b lo x % 16 ≤ b := by
  have hc := dv_pos hlo hb1
  unfold pkd Vd at *
  split
  · split
    · omega
    · omega
  · omega
theorem Vd.pk2 {b lo x : Nat} (hb1 : 1 ≤ b) (hb : b ≤ 12) (hlo : 1 ≤ lo) (h : Vd b x) : Vd b (pkd b lo x) := Or.inr (h.pk hb1 hb hlo)
theorem fR_key {b lo r x : Nat} (hb1 : 1 ≤ b) (hb : b ≤ 12) (hlo : 1 ≤ lo) (hr : r < b) (h : Vd b x) : bfN b lo r + fR (rbN b lo r) x = fR r (pkd b lo x) := by
  have hc := dv_pos hlo hb1
  unfold bfN rbN fR
  by_cases c1 : lo ≤ r
  · rw [if_pos c1, if_pos c1]
    unfold pkd
    rw [if_pos (show lo ≤ b by omega)]
    unfold Vd at h
    split
    · split
      · split <;> omega
      · split <;> omega
    · split
      · split <;> omega
      · split <;> omega
  · rw [if_neg c1, if_neg c1]
    by_cases c2 : lo ≤ b
    · rw [if_pos c2, dv_1 hlo c2]
      unfold pkd
      rw [if_pos c2]
      unfold Vd at h
      split
      · split
        · split <;> omega
        · split <;> omega
      · split
        · split <;> omega
        · split <;> omega
    · rw [if_neg c2]
      unfold pkd
      rw [if_neg c2]
      unfold Vd at h
      rw [if_neg (show ¬ x % 16 ≤ 0 by omega), if_neg (by omega)]
      omega
theorem fR_mono {r x y : Nat} (h : x ≤ y) : fR r x ≤ fR r y := by
  unfold fR
  split <;> split <;> omega
theorem fR_min {r x y : Nat} : fR r (min x y) = min (fR r x) (fR r y) := by
  rcases Nat.le_total x y with h | h
  · rw [Nat.min_eq_left h, Nat.min_eq_left (fR_mono h)]
  · rw [Nat.min_eq_right h, Nat.min_eq_right (fR_mono h)]
/-- packed from the beginning -/
theorem pk_fwd {b lo x : Nat} (hb1 : 1 ≤ b) (hb : b ≤ 12) (hlo : 1 ≤ lo) (h : Vd b x) : pkd b lo x / 16 = x / 16 + bfN b lo (b - x % 16) ∧ b - pkd b lo x % 16 = rbN b lo (b - x % 16) := by
  have hc := dv_pos hlo hb1
  unfold bfN rbN
  by_cases c2 : lo ≤ b
  · have h1 := dv_1 hlo c2
    unfold pkd Vd at *
    rw [if_pos c2, h1, if_pos c2]
    split
    · rw [if_pos (by omega), if_pos (by omega)]; omega
    · rw [if_neg (by omega), if_neg (by omega)]; omega
  · unfold pkd Vd at *
    rw [if_neg c2, if_neg (by omega), if_neg (by omega), if_neg c2]
    omega
theorem jn_fR {b x y : Nat} (hb : b ≤ 12) (hx : 1 ≤ x % 16 ∧ x % 16 ≤ b) (hy : Vd b y) : jnd b x y = x / 16 + fR (b - x % 16) y := by
  unfold jnd fR Vd at *
  split
  · rw [if_neg (by omega)]; omega
  · rw [if_pos (by omega)]; omega
section GREET
variable {p b s : Nat} {Lo Ra : Nat → Nat}
theorem pcN_V (hp : p ≤ 8) (hb1 : 1 ≤ b) (hb : b ≤ 12) (hL1 : ∀ i, i < p → 1 ≤ Lo i) : ∀ (m q : Nat), q ≤ m → q < 2 ^ p → Vd b (pcN p b Lo (hiN Ra p s) q)
  | m, q, hm, hq => by
    induction m generalizing q with
    | zero =>
      rw [show q = 0 by omega, pcN_eq hp]
      exact Or.inl rfl
    | succ m ih =>
      by_cases c : q = 0
      · rw [c, pcN_eq hp]
        exact Or.inl rfl
      · have h256 := p256 hp
        rw [pcN_eq hp]
        unfold pcF
        rw [if_neg c, if_neg (by omega)]
        obtain ⟨i, hi, hb2⟩ := mb_ex (Ra := Ra) (Hi := hiN Ra p s) (s := s) (fun _ _ => rfl) hq c
        have key : ∀ n, n ≤ p → ∀ a, mnN (fun i => pkd b (Lo i) (pcN p b Lo (hiN Ra p s) (q ^^^ 2 ^ i))) (mbN (hiN Ra p s) q) n = some a → Vd b a := by
          intro n
          induction n with
          | zero => intro _ a e; cases e
          | succ n ihn =>
            intro hn a e
            cases cb : mbN (hiN Ra p s) q n with
            | false => rw [mnN_f cb] at e; exact ihn (by omega) a e
            | true =>
              have hv : Vd b (pkd b (Lo n) (pcN p b Lo (hiN Ra p s) (q ^^^ 2 ^ n))) := by
                have hx := xor_bit (s := q) (i := n) (by omega) (by omega) (mb_tb cb)
                exact (ih _ (by omega) (by omega)).pk2 hb1 hb (hL1 n (by omega))
              cases h2 : mnN (fun i => pkd b (Lo i) (pcN p b Lo (hiN Ra p s) (q ^^^ 2 ^ i))) (mbN (hiN Ra p s) q) n with
              | none => rw [mnN_n cb h2] at e; cases e; exact hv
              | some a0 =>
                rw [mnN_s cb h2] at e
                cases e
                rcases Nat.le_total a0 (pkd b (Lo n) (pcN p b Lo (hiN Ra p s) (q ^^^ 2 ^ n))) with h | h
                · rw [Nat.min_eq_left h]; exact ihn (by omega) a0 h2
                · rw [Nat.min_eq_right h]; exact hv
        obtain ⟨a, ha⟩ := mnN_some (f := fun i => pkd b (Lo i) (pcN p b Lo (hiN Ra p s) (q ^^^ 2 ^ i))) hi hb2
        rw [ha]
        exact key p (Nat.le_refl _) a ha
theorem bcN_xor : ∀ s, s < 256 → ∀ i, i < 8 → tb s i = true → bcN (s ^^^ 2 ^ i) + 1 = bcN s := by decide +kernel
theorem mnN_min {f : Nat → Nat} {c : Nat → Bool} : ∀ {n i a : Nat}, i < n → c i = true → mnN f c n = some a → a ≤ f i
  | 0, i, a, hi, _, _ => absurd hi (Nat.not_lt_zero i)
  | n + 1, i, a, hi, hc, e => by
    cases cb : c n with
    | false =>
      rw [mnN_f cb] at e
      exact mnN_min (by rcases Nat.lt_or_ge i n with h | h; exact h; (have : i = n := by omega); rw [this, cb] at hc; cases hc) hc e
    | true =>
      cases h2 : mnN f c n with
      | none =>
        rw [mnN_n cb h2] at e
        cases e
        rcases Nat.lt_or_ge i n with h | h
        · obtain ⟨a, ha⟩ := mnN_some (f := f) h hc
          rw [ha] at h2; cases h2
        · rw [show i = n by omega]; exact Nat.le_refl _
      | some a0 =>
        rw [mnN_s cb h2] at e
        cases e
        rcases Nat.lt_or_ge i n with h | h
        · exact Nat.le_trans (Nat.min_le_left _ _) (mnN_min h hc h2)
        · rw [show i = n by omega]; exact Nat.min_le_right _ _
theorem mnN_at {f : Nat → Nat} {c : Nat → Bool} : ∀ {n a : Nat}, mnN f c n = some a → ∃ i, i < n ∧ c i = true ∧ f i = a
  | 0, a, e => by cases e
  | n + 1, a, e => by
    cases cb : c n with
    | false =>
      rw [mnN_f cb] at e
      obtain ⟨i, h1, h2, h3⟩ := mnN_at e
      exact ⟨i, by omega, h2, h3⟩
    | true =>
      cases h2 : mnN f c n with
      | none => rw [mnN_n cb h2] at e; cases e; exact ⟨n, by omega, cb, rfl⟩
      | some a0 =>
        rw [mnN_s cb h2] at e
        cases e
        rcases Nat.le_total a0 (f n) with h | h
        · obtain ⟨i, i1, i2, i3⟩ := mnN_at h2
          exact ⟨i, by omega, i2, by rw [Nat.min_eq_left h]; exact i3⟩
        · exact ⟨n, by omega, cb, by rw [Nat.min_eq_right h]⟩
theorem pc_mn (hp : p ≤ 8) {q : Nat} (hq : q < 2 ^ p) (h0 : ¬ q = 0) : mnN (fun i => pkd b (Lo i) (pcN p b Lo (hiN Ra p s) (q ^^^ 2 ^ i))) (mbN (hiN Ra p s) q) p = some (pcN p b Lo (hiN Ra p s) q) := by
  have h256 := p256 hp
  obtain ⟨i, hi, hb2⟩ := mb_ex (Ra := Ra) (Hi := hiN Ra p s) (s := s) (fun _ _ => rfl) hq h0
  obtain ⟨a, ha⟩ := mnN_some (f := fun i => pkd b (Lo i) (pcN p b Lo (hiN Ra p s) (q ^^^ 2 ^ i))) hi hb2
  rw [ha, pcN_eq hp]
  unfold pcF
  rw [if_neg h0, if_neg (by omega), ha]
  rfl
theorem pcN_20 (hp : p ≤ 8) (hb1 : 1 ≤ b) (hb : b ≤ 12) (hL : ∀ i, i < p → Lo i ≤ 20) : ∀ (m q : Nat), q ≤ m → q < 2 ^ p → pcN p b Lo (hiN Ra p s) q / 16 ≤ 20 * bcN q
  | m, q, hm, hq => by
    induction m generalizing q with
    | zero =>
      rw [show q = 0 by omega, pcN_eq hp]
      show b / 16 ≤ _
      omega
    | succ m ih =>
      by_cases c : q = 0
      · rw [c, pcN_eq hp]
        show b / 16 ≤ _
        omega
      · have h256 := p256 hp
        obtain ⟨i, hi, hb2⟩ := mb_ex (Ra := Ra) (Hi := hiN Ra p s) (s := s) (fun _ _ => rfl) hq c
        have h1 := mnN_min hi hb2 (pc_mn (b := b) (Lo := Lo) (Ra := Ra) (s := s) hp hq c)
        have ht := mb_tb hb2
        have hx := xor_bit (s := q) (i := i) (by omega) (by omega) ht
        have h2 := ih (q ^^^ 2 ^ i) (by omega) (by omega)
        have h3 := bcN_xor q (by omega) i (by omega) ht
        have h4 := hL i hi
        have h5 : pkd b (Lo i) (pcN p b Lo (hiN Ra p s) (q ^^^ 2 ^ i)) / 16 ≤ pcN p b Lo (hiN Ra p s) (q ^^^ 2 ^ i) / 16 + 20 := by
          have h6 := dv_le (a := Lo i) hb1
          unfold pkd
          split
          · split <;> omega
          · omega
        have h7 : pcN p b Lo (hiN Ra p s) q / 16 ≤ pkd b (Lo i) (pcN p b Lo (hiN Ra p s) (q ^^^ 2 ^ i)) / 16 := Nat.div_le_div_right h1
        omega
theorem fR_160 (hp : p ≤ 8) (hb1 : 1 ≤ b) (hb : b ≤ 12) (hL : ∀ i, i < p → Lo i ≤ 20) (r : Nat) {q : Nat} (hq : q < 2 ^ p) : fR r (pcN p b Lo (hiN Ra p s) q) ≤ 160 := by
  have h1 := pcN_20 (b := b) (Lo := Lo) (Ra := Ra) (s := s) hp hb1 hb hL q q (Nat.le_refl _) hq
  have h2 := bcN_le q
  unfold fR
  omega
theorem bs_best (hp : p ≤ 8) (hb1 : 1 ≤ b) (hb : b ≤ 12) (hL1 : ∀ i, i < p → 1 ≤ Lo i) {q r : Nat} (hq : q < 2 ^ p) (hr : r < b) {i : Nat} (hi : i < p) (ht : tb q i = true) : bfN b (Lo i) r + fR (rbN b (Lo i) r) (pcN p b Lo (hiN Ra p s) (q ^^^ 2 ^ i)) = fR r (pkd b (Lo i) (pcN p b Lo (hiN Ra p s) (q ^^^ 2 ^ i))) := by
  have h256 := p256 hp
  have hx := xor_bit (s := q) (i := i) (by omega) (by omega) ht
  exact fR_key hb1 hb (hL1 i hi) hr (pcN_V hp hb1 hb hL1 (q ^^^ 2 ^ i) _ (Nat.le_refl _) (by omega))
theorem oc_pk (hp : p ≤ 8) (hb1 : 1 ≤ b) (hb : b ≤ 12) (hL1 : ∀ i, i < p → 1 ≤ Lo i) (hs : s < 2 ^ p) {l x fe : Nat} (hl0 : ¬ l = 0) (i1 : l &&& s = l) (i3 : Vd b x) (hx1 : x % 16 ≤ b) (hr : b - x % 16 < b) (i4 : x / 16 + fR (b - x % 16) (pcN p b Lo (hiN Ra p s) l) = fe) : ∃ i, fstN (ngB b Lo (hiN Ra p s) (pcN p b Lo (hiN Ra p s)) l x fe) p = some i := by
  have h256 := p256 hp
  have hl := sub_le i1
  obtain ⟨i, hi, hc, hf⟩ := mnN_at (pc_mn (b := b) (Lo := Lo) (Ra := Ra) (s := s) hp (show l < 2 ^ p by omega) hl0)
  refine fstN_some2 hi ?_
  unfold ngB
  rw [hc, Bool.true_and, decide_eq_true_iff]
  have hf : pkd b (Lo i) (pcN p b Lo (hiN Ra p s) (l ^^^ 2 ^ i)) = pcN p b Lo (hiN Ra p s) l := hf
  have ht := mb_tb hc
  have hx := xor_bit (s := l) (i := i) (by omega) (by omega) ht
  rw [jn_fR hb (i3.pk hb1 hb (hL1 i hi)).2 (pcN_V hp hb1 hb hL1 _ _ (Nat.le_refl _) (by omega)), (pk_fwd hb1 hb (hL1 i hi) i3).1, (pk_fwd hb1 hb (hL1 i hi) i3).2, Nat.add_assoc, bs_best hp hb1 hb hL1 (by omega) hr hi ht, hf]
  exact i4
theorem Vd.m {x : Nat} (hb1 : 1 ≤ b) (hb : b ≤ 12) (h : Vd b x) : x % 16 ≤ b ∧ b - x % 16 < b := by
  unfold Vd at h
  omega
theorem bc_0 {l : Nat} (h : 1 ≤ bcN l) : ¬ l = 0 := fun e => by rw [e] at h; exact absurd h (by decide)
/-- a council goes on to its end -/
theorem oc_go (hp : p ≤ 8) (hb1 : 1 ≤ b) (hb : b ≤ 12) (hL1 : ∀ i, i < p → 1 ≤ Lo i) (hs : s < 2 ^ p) (h0 : ¬ s = 0) {fe : Nat} (hfe : fe = pcN p b Lo (hiN Ra p s) s / 16) : ∀ c, c ≤ bcN s → (fun l x => l &&& s = l ∧ bcN l + c = bcN s ∧ Vd b x ∧ x / 16 + fR (b - x % 16) (pcN p b Lo (hiN Ra p s) l) = fe) (ocN p b Lo (hiN Ra p s) (pcN p b Lo (hiN Ra p s)) s fe c).1 (ocN p b Lo (hiN Ra p s) (pcN p b Lo (hiN Ra p s)) s fe c).2
  | 0, _ => by
    have hV := pcN_V (b := b) (Lo := Lo) (Ra := Ra) (s := s) hp hb1 hb hL1 s s (Nat.le_refl _) hs
    have hV2 : 16 ≤ pcN p b Lo (hiN Ra p s) s ∧ 1 ≤ pcN p b Lo (hiN Ra p s) s % 16 := by
      obtain ⟨i, hi, hc, hf⟩ := mnN_at (pc_mn (b := b) (Lo := Lo) (Ra := Ra) (s := s) hp hs h0)
      have h256 := p256 hp
      have hx := xor_bit (s := s) (i := i) (by omega) (by omega) (mb_tb hc)
      have := (pcN_V (b := b) (Lo := Lo) (Ra := Ra) (s := s) hp hb1 hb hL1 (s ^^^ 2 ^ i) _ (Nat.le_refl _) (by omega)).pk hb1 hb (hL1 i hi)
      have hf : pkd b (Lo i) (pcN p b Lo (hiN Ra p s) (s ^^^ 2 ^ i)) = pcN p b Lo (hiN Ra p s) s := hf
      rw [hf] at this
      exact ⟨this.1, this.2.1⟩
    refine ⟨Nat.and_self s, rfl, Or.inl rfl, ?_⟩
    show b / 16 + fR (b - b % 16) (pcN p b Lo (hiN Ra p s) s) = fe
    rw [hfe]
    unfold fR
    rw [if_neg (by omega)]
    omega
  | c + 1, hc => by
    obtain ⟨i1, i2, i3, i4⟩ := oc_go hp hb1 hb hL1 hs h0 hfe c (by omega)
    obtain ⟨i, hi⟩ := oc_pk hp hb1 hb hL1 hs (bc_0 (by omega)) i1 i3 (i3.m hb1 hb).1 (i3.m hb1 hb).2 i4
    rw [ocN_s hi]
    have hsp := fstN_spec hi
    have hng := hsp.2.1
    have hmb := ng_t hng
    have ht := mb_tb hmb
    have h256 := p256 hp
    have hl := sub_le i1
    refine ⟨xor_sub i1 ht, ?_, i3.pk2 hb1 hb (hL1 i hsp.1), ?_⟩
    · have := bcN_xor _ (by omega) i (by omega) ht
      show bcN (_ ^^^ 2 ^ i) + (c + 1) = bcN s
      omega
    · unfold ngB at hng
      rw [Bool.and_eq_true, decide_eq_true_iff] at hng
      have hx := xor_bit (s := (ocN p b Lo (hiN Ra p s) (pcN p b Lo (hiN Ra p s)) s fe c).1) (i := i) (by omega) (by omega) ht
      rw [jn_fR hb (i3.pk hb1 hb (hL1 i hsp.1)).2 (pcN_V hp hb1 hb hL1 _ _ (Nat.le_refl _) (by omega))] at hng
      exact hng.2
end GREET
