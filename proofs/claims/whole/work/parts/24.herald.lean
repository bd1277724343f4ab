def us (a b : Int32) : Int32 := (a.toUInt32 >>> (b.toUInt32 &&& Int32.toUInt32 31)).toInt32
def bc1 (x : Int32) : Int32 := x - (us x (nI 1) &&& 1431655765)
def bc2 (x : Int32) : Int32 := (x &&& 858993459) + (us x (nI 2) &&& 858993459)
def bc3 (x : Int32) : Int32 := (x + us x (nI 4)) &&& 252645135
def bc4 (x : Int32) : Int32 := x + us x (nI 8)
def bc5 (x : Int32) : Int32 := x + us x (nI 16)
/-- how many persons a set has -/
def bcN (s : Nat) : Nat := cnN (tb s) 8
theorem bc_ok : ∀ s, s < 256 → (bc5 (bc4 (bc3 (bc2 (bc1 (nI s)))))) &&& (nI 63) = nI (bcN s) := by decide +kernel
theorem bcN_le (s : Nat) : bcN s ≤ 8 := cnN_le _ _
theorem dec1 (a : Int32) : a + Int32.ofInt (-1) = a - 1 := by rw [Int32.sub_eq_add_neg]; rfl
def anyN (b : Nat → Bool) : Nat → Bool
  | 0 => false
  | n + 1 => anyN b n || b n
theorem anyN_t {b : Nat → Bool} : ∀ {n i : Nat}, i < n → b i = true → anyN b n = true
  | 0, i, h, _ => absurd h (by omega)
  | n + 1, i, h, hb => by
    show (anyN b n || b n) = true
    by_cases e : i = n
    · rw [← e, hb, Bool.or_true]
    · rw [anyN_t (by omega) hb, Bool.true_or]
theorem anyN_f {b : Nat → Bool} : ∀ {n : Nat}, (∀ i, i < n → b i = false) → anyN b n = false
  | 0, _ => rfl
  | n + 1, h => by
    show (anyN b n || b n) = false
    rw [anyN_f (fun i hi => h i (by omega)), h n (by omega)]
    rfl
theorem anyN_e {b : Nat → Bool} : ∀ {n : Nat}, anyN b n = true → ∃ i, i < n ∧ b i = true
  | 0, h => by cases h
  | n + 1, h => by
    have h : (anyN b n || b n) = true := h
    rw [Bool.or_eq_true] at h
    rcases h with h | h
    · obtain ⟨i, h1, h2⟩ := anyN_e h
      exact ⟨i, by omega, h2⟩
    · exact ⟨n, by omega, h⟩
theorem anyN_c {b c : Nat → Bool} : ∀ {n : Nat}, (∀ i, i < n → b i = c i) → anyN b n = anyN c n
  | 0, _ => rfl
  | n + 1, h => by
    show (anyN b n || b n) = (anyN c n || c n)
    rw [anyN_c (fun i hi => h i (by omega)), h n (by omega)]
/-- the first for which b holds, of n -/
def fstN (b : Nat → Bool) (n : Nat) : Option Nat := if preN (fun i => !b i) n < n then some (preN (fun i => !b i) n) else none
theorem fstN_none {b : Nat → Bool} {n : Nat} (h : ∀ i, i < n → b i = false) : fstN b n = none := by
  have e : preN (fun i => !b i) n = n := preN_eq (fun j hj => by rw [h j hj]; rfl) (Or.inl rfl)
  unfold fstN
  rw [e, if_neg (Nat.lt_irrefl n)]
theorem fstN_some {b : Nat → Bool} {i n : Nat} (h : ∀ j, j < i → b j = false) (hi : b i = true) (hn : i < n) : fstN b n = some i := by
  have e : preN (fun i => !b i) n = i := preN_eq (fun j hj => by rw [h j hj]; rfl) (Or.inr ⟨hn, by rw [hi]; rfl⟩)
  unfold fstN
  rw [e, if_pos hn]
theorem fstN_spec {b : Nat → Bool} {n i : Nat} (h : fstN b n = some i) : i < n ∧ b i = true ∧ ∀ j, j < i → b j = false := by
  unfold fstN at h
  by_cases c : preN (fun i => !b i) n < n
  · rw [if_pos c] at h
    have e := Option.some.inj h
    rw [e] at c
    have h1 := preN_stop (fun i => !b i) n (by rw [e]; exact c)
    rw [e] at h1
    refine ⟨c, by simpa using h1, fun j hj => ?_⟩
    have h2 := preN_all (fun i => !b i) n j (by rw [e]; exact hj)
    simpa using h2
  · rw [if_neg c] at h
    cases h
/-- by all that went before -/
def tabN (f : (Nat → Nat) → Nat → Nat) : Nat → (Nat → Nat)
  | 0 => fun _ => 0
  | n + 1 => va_up (tabN f n) n (f (tabN f n) n)
def cov (f : (Nat → Nat) → Nat → Nat) (n : Nat) : Nat := tabN f (n + 1) n
def locF (f : (Nat → Nat) → Nat → Nat) : Prop := ∀ (A B : Nat → Nat) (n : Nat), (∀ j, j < n → A j = B j) → f A n = f B n
theorem tabN_lt (f : (Nat → Nat) → Nat → Nat) : ∀ {n j : Nat}, j < n → tabN f n j = cov f j
  | 0, j, h => absurd h (by omega)
  | n + 1, j, h => by
    by_cases e : j = n
    · subst e; rfl
    · show va_up (tabN f n) n _ j = _
      rw [va_upd_ne _ _ e]
      exact tabN_lt f (by omega)
theorem cov_eq {f : (Nat → Nat) → Nat → Nat} (hf : locF f) {A : Nat → Nat} {n : Nat} (h : ∀ j, j < n → A j = cov f j) : f A n = cov f n := by
  show f A n = va_up (tabN f n) n (f (tabN f n) n) n
  rw [va_upd_self]
  exact hf _ _ _ (fun j hj => (h j hj).trans (tabN_lt f hj).symm)
theorem xor_bit0 : ∀ s, s < 256 → ∀ i, i < 8 → tb s i = true → s ^^^ 2 ^ i < s := by decide +kernel
theorem xor_bit {s i : Nat} (hs : s < 256) (hi : i < 8) (h : tb s i = true) : s ^^^ 2 ^ i < s := xor_bit0 s hs i hi h
theorem xor_lt {s i n : Nat} (hs : s < 2 ^ n) (hi : i < n) : s ^^^ 2 ^ i < 2 ^ n := Nat.xor_lt_two_pow hs (Nat.pow_lt_pow_right (by decide) hi)
theorem or_lt {s i n : Nat} (hs : s < 2 ^ n) (hi : i < n) : s ||| 2 ^ i < 2 ^ n := Nat.or_lt_two_pow hs (Nat.pow_lt_pow_right (by decide) hi)
theorem p256 {p : Nat} (h : p ≤ 8) : 2 ^ p ≤ 256 := Nat.pow_le_pow_right (by decide) h

theorem c_bitCount (g : Gx) (n : Nat) (w : Wd) {s : Nat} (hs : s < 256) : CT g yJ6_bitCount_0f7a4 cJ6_bitCount_0f7a4 1 (some .int) rm_J6_bitCount_0f7a4 n n w [.int (nI s)] (Rv (.int (nI (bcN s))) w) := by
  refine CT.start [some (.int (nI s))] (by decide +kernel) rfl (Nat.le_of_ble_eq_true rfl) (fun x C hnm => ?_)
  refine ww_iload0 C dJ6_bitCount_0f7a4_0 ?_
  refine ww_iload0 C dJ6_bitCount_0f7a4_1 ?_
  refine ww_iconst C (v := nI 1) dJ6_bitCount_0f7a4_2 (by decide) ?_
  refine ww_iushr C dJ6_bitCount_0f7a4_3 ?_
  refine ww_ldcw C (v := 1431655765) kc_J6_265 dJ6_bitCount_0f7a4_4 ?_
  refine ww_iand C dJ6_bitCount_0f7a4_7 ?_
  refine ww_isub C dJ6_bitCount_0f7a4_8 ?_
  refine ww_istore0 C dJ6_bitCount_0f7a4_9 (by decide) ?_
  refine ww_iload0 C dJ6_bitCount_0f7a4_10 ?_
  refine ww_ldcw C (v := 858993459) kc_J6_266 dJ6_bitCount_0f7a4_11 ?_
  refine ww_iand C dJ6_bitCount_0f7a4_14 ?_
  refine ww_iload0 C dJ6_bitCount_0f7a4_15 ?_
  refine ww_iconst C (v := nI 2) dJ6_bitCount_0f7a4_16 (by decide) ?_
  refine ww_iushr C dJ6_bitCount_0f7a4_17 ?_
  refine ww_ldcw C (v := 858993459) kc_J6_266 dJ6_bitCount_0f7a4_18 ?_
  refine ww_iand C dJ6_bitCount_0f7a4_21 ?_
  refine ww_iadd C dJ6_bitCount_0f7a4_22 ?_
  refine ww_istore0 C dJ6_bitCount_0f7a4_23 (by decide) ?_
  refine ww_iload0 C dJ6_bitCount_0f7a4_24 ?_
  refine ww_iload0 C dJ6_bitCount_0f7a4_25 ?_
  refine ww_iconst C (v := nI 4) dJ6_bitCount_0f7a4_26 (by decide) ?_
  refine ww_iushr C dJ6_bitCount_0f7a4_27 ?_
  refine ww_iadd C dJ6_bitCount_0f7a4_28 ?_
  refine ww_ldcw C (v := 252645135) kc_J6_267 dJ6_bitCount_0f7a4_29 ?_
  refine ww_iand C dJ6_bitCount_0f7a4_32 ?_
  refine ww_istore0 C dJ6_bitCount_0f7a4_33 (by decide) ?_
  refine ww_iload0 C dJ6_bitCount_0f7a4_34 ?_
  refine ww_iload0 C dJ6_bitCount_0f7a4_35 ?_
  refine ww_bipush C (v := nI 8) dJ6_bitCount_0f7a4_36 (by decide) ?_
  refine ww_iushr C dJ6_bitCount_0f7a4_38 ?_
  refine ww_iadd C dJ6_bitCount_0f7a4_39 ?_
  refine ww_istore0 C dJ6_bitCount_0f7a4_40 (by decide) ?_
  refine ww_iload0 C dJ6_bitCount_0f7a4_41 ?_
  refine ww_iload0 C dJ6_bitCount_0f7a4_42 ?_
  refine ww_bipush C (v := nI 16) dJ6_bitCount_0f7a4_43 (by decide) ?_
  refine ww_iushr C dJ6_bitCount_0f7a4_45 ?_
  refine ww_iadd C dJ6_bitCount_0f7a4_46 ?_
  refine ww_istore0 C dJ6_bitCount_0f7a4_47 (by decide) ?_
  refine ww_iload0 C dJ6_bitCount_0f7a4_48 ?_
  refine ww_bipush C (v := nI 63) dJ6_bitCount_0f7a4_49 (by decide) ?_
  refine ww_iand C dJ6_bitCount_0f7a4_51 ?_
  exact ww_ri C dJ6_bitCount_0f7a4_52 rfl ⟨Nat.le_of_ble_eq_true rfl, Nat.le_of_ble_eq_true rfl⟩ (bc_ok s hs) rfl
def GR (w : Wd) (k pe b v : Nat) (Lo Be Pa Ra Ti Wk Hi : Nat → Nat) (Pk : Nat → Int32) (Odr : Nat → Nat) (od : Nat) : Prop := w k = ob 1 [.int (nI pe), .int (nI b), .int (nI v), .ref (k + 1), .ref (k + 2), .ref (k + 3), .ref (k + 4), .ref (k + 5), .ref (k + 6), .ref (k + 7), .ref (k + 8), .ref (k + 9), .int (nI od)] ∧ w (k + 1) = ai 8 Lo ∧ w (k + 2) = ai 8 Be ∧ w (k + 3) = ai 8 Pa ∧ w (k + 4) = ai 8 Ra ∧ w (k + 5) = ai 256 Ti ∧ w (k + 6) = az 256 Wk ∧ w (k + 7) = ai 8 Hi ∧ w (k + 8) = ar 0 256 Pk ∧ w (k + 9) = ai 8 Odr ∧ (∀ i, Lo i ≤ 20) ∧ (∀ i, Be i ≤ 360) ∧ (∀ i, Pa i ≤ 99) ∧ (∀ i, Ra i ≤ 9) ∧ (∀ i, Ti i ≤ 10000) ∧ (∀ i, Wk i ≤ 1) ∧ (∀ i, Hi i ≤ 255) ∧ (∀ i, Odr i ≤ 7) ∧ pe ≤ 8 ∧ b ≤ 12 ∧ v ≤ 20 ∧ od ≤ 8
section HERALD
variable {w w1 : Wd} {k a c pe b v od : Nat} {Lo Be Pa Ra Ti Wk Hi Odr : Nat → Nat} {Pk : Nat → Int32}
theorem GR.frm (h : GR w k pe b v Lo Be Pa Ra Ti Wk Hi Pk Odr od) (hf : fr w w1 a c) (hd : k + 10 ≤ a ∨ c ≤ k) : GR w1 k pe b v Lo Be Pa Ra Ti Wk Hi Pk Odr od := by
  obtain ⟨h0, h1, h2, h3, h4, h5, h6, h7, h8, h9, q1, q2, q3, q4, q5, q6, q7, q8, hz⟩ := h
  exact ⟨(hf _ (by omega)).trans h0, (hf _ (by omega)).trans h1, (hf _ (by omega)).trans h2, (hf _ (by omega)).trans h3, (hf _ (by omega)).trans h4, (hf _ (by omega)).trans h5, (hf _ (by omega)).trans h6, (hf _ (by omega)).trans h7, (hf _ (by omega)).trans h8, (hf _ (by omega)).trans h9, q1, q2, q3, q4, q5, q6, q7, q8, hz⟩
theorem GR.setO {pe2 b2 v2 od2 : Nat} (h : GR w k pe b v Lo Be Pa Ra Ti Wk Hi Pk Odr od) (hw : w1 = va_up w k (ob 1 [.int (nI pe2), .int (nI b2), .int (nI v2), .ref (k + 1), .ref (k + 2), .ref (k + 3), .ref (k + 4), .ref (k + 5), .ref (k + 6), .ref (k + 7), .ref (k + 8), .ref (k + 9), .int (nI od2)])) (hq : pe2 ≤ 8 ∧ b2 ≤ 12 ∧ v2 ≤ 20 ∧ od2 ≤ 8) : GR w1 k pe2 b2 v2 Lo Be Pa Ra Ti Wk Hi Pk Odr od2 := by
  obtain ⟨h0, h1, h2, h3, h4, h5, h6, h7, h8, h9, q1, q2, q3, q4, q5, q6, q7, q8, hz⟩ := h
  have hf : fr w w1 k (k + 1) := fr.up hw (by omega) (by omega)
  exact ⟨by rw [hw]; exact va_upd_self _ _ _, (hf _ (by omega)).trans h1, (hf _ (by omega)).trans h2, (hf _ (by omega)).trans h3, (hf _ (by omega)).trans h4, (hf _ (by omega)).trans h5, (hf _ (by omega)).trans h6, (hf _ (by omega)).trans h7, (hf _ (by omega)).trans h8, (hf _ (by omega)).trans h9, q1, q2, q3, q4, q5, q6, q7, q8, hq⟩
theorem GR.setLo {A2 : Nat → Nat} (h : GR w k pe b v Lo Be Pa Ra Ti Wk Hi Pk Odr od) (hw : w1 = va_up w (k + 1) (ai 8 A2)) (hq : ∀ i, A2 i ≤ 20) : GR w1 k pe b v A2 Be Pa Ra Ti Wk Hi Pk Odr od := by
  obtain ⟨h0, h1, h2, h3, h4, h5, h6, h7, h8, h9, q1, q2, q3, q4, q5, q6, q7, q8, hz⟩ := h
  have hf : fr w w1 (k + 1) (k + 2) := fr.up hw (by omega) (by omega)
  exact ⟨(hf _ (by omega)).trans h0, (by rw [hw]; exact va_upd_self _ _ _), (hf _ (by omega)).trans h2, (hf _ (by omega)).trans h3, (hf _ (by omega)).trans h4, (hf _ (by omega)).trans h5, (hf _ (by omega)).trans h6, (hf _ (by omega)).trans h7, (hf _ (by omega)).trans h8, (hf _ (by omega)).trans h9, hq, q2, q3, q4, q5, q6, q7, q8, hz⟩
theorem GR.setBe {A2 : Nat → Nat} (h : GR w k pe b v Lo Be Pa Ra Ti Wk Hi Pk Odr od) (hw : w1 = va_up w (k + 2) (ai 8 A2)) (hq : ∀ i, A2 i ≤ 360) : GR w1 k pe b v Lo A2 Pa Ra Ti Wk Hi Pk Odr od := by
  obtain ⟨h0, h1, h2, h3, h4, h5, h6, h7, h8, h9, q1, q2, q3, q4, q5, q6, q7, q8, hz⟩ := h
  have hf : fr w w1 (k + 2) (k + 3) := fr.up hw (by omega) (by omega)
  exact ⟨(hf _ (by omega)).trans h0, (hf _ (by omega)).trans h1, (by rw [hw]; exact va_upd_self _ _ _), (hf _ (by omega)).trans h3, (hf _ (by omega)).trans h4, (hf _ (by omega)).trans h5, (hf _ (by omega)).trans h6, (hf _ (by omega)).trans h7, (hf _ (by omega)).trans h8, (hf _ (by omega)).trans h9, q1, hq, q3, q4, q5, q6, q7, q8, hz⟩
theorem GR.setPa {A2 : Nat → Nat} (h : GR w k pe b v Lo Be Pa Ra Ti Wk Hi Pk Odr od) (hw : w1 = va_up w (k + 3) (ai 8 A2)) (hq : ∀ i, A2 i ≤ 99) : GR w1 k pe b v Lo Be A2 Ra Ti Wk Hi Pk Odr od := by
  obtain ⟨h0, h1, h2, h3, h4, h5, h6, h7, h8, h9, q1, q2, q3, q4, q5, q6, q7, q8, hz⟩ := h
  have hf : fr w w1 (k + 3) (k + 4) := fr.up hw (by omega) (by omega)
  exact ⟨(hf _ (by omega)).trans h0, (hf _ (by omega)).trans h1, (hf _ (by omega)).trans h2, (by rw [hw]; exact va_upd_self _ _ _), (hf _ (by omega)).trans h4, (hf _ (by omega)).trans h5, (hf _ (by omega)).trans h6, (hf _ (by omega)).trans h7, (hf _ (by omega)).trans h8, (hf _ (by omega)).trans h9, q1, q2, hq, q4, q5, q6, q7, q8, hz⟩
theorem GR.setRa {A2 : Nat → Nat} (h : GR w k pe b v Lo Be Pa Ra Ti Wk Hi Pk Odr od) (hw : w1 = va_up w (k + 4) (ai 8 A2)) (hq : ∀ i, A2 i ≤ 9) : GR w1 k pe b v Lo Be Pa A2 Ti Wk Hi Pk Odr od := by
  obtain ⟨h0, h1, h2, h3, h4, h5, h6, h7, h8, h9, q1, q2, q3, q4, q5, q6, q7, q8, hz⟩ := h
  have hf : fr w w1 (k + 4) (k + 5) := fr.up hw (by omega) (by omega)
  exact ⟨(hf _ (by omega)).trans h0, (hf _ (by omega)).trans h1, (hf _ (by omega)).trans h2, (hf _ (by omega)).trans h3, (by rw [hw]; exact va_upd_self _ _ _), (hf _ (by omega)).trans h5, (hf _ (by omega)).trans h6, (hf _ (by omega)).trans h7, (hf _ (by omega)).trans h8, (hf _ (by omega)).trans h9, q1, q2, q3, hq, q5, q6, q7, q8, hz⟩
theorem GR.setTi {A2 : Nat → Nat} (h : GR w k pe b v Lo Be Pa Ra Ti Wk Hi Pk Odr od) (hw : w1 = va_up w (k + 5) (ai 256 A2)) (hq : ∀ i, A2 i ≤ 10000) : GR w1 k pe b v Lo Be Pa Ra A2 Wk Hi Pk Odr od := by
  obtain ⟨h0, h1, h2, h3, h4, h5, h6, h7, h8, h9, q1, q2, q3, q4, q5, q6, q7, q8, hz⟩ := h
  have hf : fr w w1 (k + 5) (k + 6) := fr.up hw (by omega) (by omega)
  exact ⟨(hf _ (by omega)).trans h0, (hf _ (by omega)).trans h1, (hf _ (by omega)).trans h2, (hf _ (by omega)).trans h3, (hf _ (by omega)).trans h4, (by rw [hw]; exact va_upd_self _ _ _), (hf _ (by omega)).trans h6, (hf _ (by omega)).trans h7, (hf _ (by omega)).trans h8, (hf _ (by omega)).trans h9, q1, q2, q3, q4, hq, q6, q7, q8, hz⟩
theorem GR.setWk {A2 : Nat → Nat} (h : GR w k pe b v Lo Be Pa Ra Ti Wk Hi Pk Odr od) (hw : w1 = va_up w (k + 6) (az 256 A2)) (hq : ∀ i, A2 i ≤ 1) : GR w1 k pe b v Lo Be Pa Ra Ti A2 Hi Pk Odr od := by
  obtain ⟨h0, h1, h2, h3, h4, h5, h6, h7, h8, h9, q1, q2, q3, q4, q5, q6, q7, q8, hz⟩ := h
  have hf : fr w w1 (k + 6) (k + 7) := fr.up hw (by omega) (by omega)
  exact ⟨(hf _ (by omega)).trans h0, (hf _ (by omega)).trans h1, (hf _ (by omega)).trans h2, (hf _ (by omega)).trans h3, (hf _ (by omega)).trans h4, (hf _ (by omega)).trans h5, (by rw [hw]; exact va_upd_self _ _ _), (hf _ (by omega)).trans h7, (hf _ (by omega)).trans h8, (hf _ (by omega)).trans h9, q1, q2, q3, q4, q5, hq, q7, q8, hz⟩
theorem GR.setHi {A2 : Nat → Nat} (h : GR w k pe b v Lo Be Pa Ra Ti Wk Hi Pk Odr od) (hw : w1 = va_up w (k + 7) (ai 8 A2)) (hq : ∀ i, A2 i ≤ 255) : GR w1 k pe b v Lo Be Pa Ra Ti Wk A2 Pk Odr od := by
  obtain ⟨h0, h1, h2, h3, h4, h5, h6, h7, h8, h9, q1, q2, q3, q4, q5, q6, q7, q8, hz⟩ := h
  have hf : fr w w1 (k + 7) (k + 8) := fr.up hw (by omega) (by omega)
  exact ⟨(hf _ (by omega)).trans h0, (hf _ (by omega)).trans h1, (hf _ (by omega)).trans h2, (hf _ (by omega)).trans h3, (hf _ (by omega)).trans h4, (hf _ (by omega)).trans h5, (hf _ (by omega)).trans h6, (by rw [hw]; exact va_upd_self _ _ _), (hf _ (by omega)).trans h8, (hf _ (by omega)).trans h9, q1, q2, q3, q4, q5, q6, hq, q8, hz⟩
theorem GR.setPk {A2 : Nat → Int32} (h : GR w k pe b v Lo Be Pa Ra Ti Wk Hi Pk Odr od) (hw : w1 = va_up w (k + 8) (ar 0 256 A2)) : GR w1 k pe b v Lo Be Pa Ra Ti Wk Hi A2 Odr od := by
  obtain ⟨h0, h1, h2, h3, h4, h5, h6, h7, h8, h9, q1, q2, q3, q4, q5, q6, q7, q8, hz⟩ := h
  have hf : fr w w1 (k + 8) (k + 9) := fr.up hw (by omega) (by omega)
  exact ⟨(hf _ (by omega)).trans h0, (hf _ (by omega)).trans h1, (hf _ (by omega)).trans h2, (hf _ (by omega)).trans h3, (hf _ (by omega)).trans h4, (hf _ (by omega)).trans h5, (hf _ (by omega)).trans h6, (hf _ (by omega)).trans h7, (by rw [hw]; exact va_upd_self _ _ _), (hf _ (by omega)).trans h9, q1, q2, q3, q4, q5, q6, q7, q8, hz⟩
theorem GR.setOdr {A2 : Nat → Nat} (h : GR w k pe b v Lo Be Pa Ra Ti Wk Hi Pk Odr od) (hw : w1 = va_up w (k + 9) (ai 8 A2)) (hq : ∀ i, A2 i ≤ 7) : GR w1 k pe b v Lo Be Pa Ra Ti Wk Hi Pk A2 od := by
  obtain ⟨h0, h1, h2, h3, h4, h5, h6, h7, h8, h9, q1, q2, q3, q4, q5, q6, q7, q8, hz⟩ := h
  have hf : fr w w1 (k + 9) (k + 10) := fr.up hw (by omega) (by omega)
  exact ⟨(hf _ (by omega)).trans h0, (hf _ (by omega)).trans h1, (hf _ (by omega)).trans h2, (hf _ (by omega)).trans h3, (hf _ (by omega)).trans h4, (hf _ (by omega)).trans h5, (hf _ (by omega)).trans h6, (hf _ (by omega)).trans h7, (hf _ (by omega)).trans h8, (by rw [hw]; exact va_upd_self _ _ _), q1, q2, q3, q4, q5, q6, q7, hq, hz⟩
end HERALD
theorem c_learn (g : Gx) (n : Nat) (w : Wd) {k pe b v od : Nat} {Lo Be Pa Ra Ti Wk Hi Odr : Nat → Nat} {Pk : Nat → Int32} (hG : GR w k pe b v Lo Be Pa Ra Ti Wk Hi Pk Odr od) {h j p b2 v2 mi : Nat} {K M S X R wo sh be K2 M2 S2 : Nat → Nat} (hH : HR w h K M S p X R wo sh be b2 v2 mi) (hN : NR w j K2 M2 S2 p) (hd1 : h + 10 ≤ k ∨ k + 10 ≤ h) (hd2 : j + 4 ≤ k ∨ k + 10 ≤ j) : CT g yX1_learn cX1_learn 4 none rm_X1_learn n n w [.ref k, .ref h, .ref j] (R0q (fun w1 => GR w1 k p b2 v2 (filN (longN K2 M2) Lo p) (filN (beatN K2 M2 S2 be) Be p) (filN X Pa p) (filN R Ra p) Ti Wk Hi Pk Odr od ∧ fr w w1 k (k + 10))) := by
  have hf : fr w w k (k + 10) := fr.rf
  have hzz := hG.2.2.2.2.2.2.2.2.2.2.2.2.2.2.2.2.2.2
  have hp := hN.2.2.2.2.1
  have hbv := hH.2.2.2.2.2.2.2.2.2.2.2.2
  refine CT.start [some (.ref k), some (.ref h), some (.ref j), none] (by decide +kernel) rfl (Nat.le_of_ble_eq_true rfl) (fun x C hnm => ?_)
  refine ww_aload0 C dX1_learn_0 ?_
  refine ww_aload2 C dX1_learn_1 ?_
  refine ww_getf C fl_X1_53 hN.1 rfl dX1_learn_2 ?_
  refine ww_bipush C (v := nI 8) dX1_learn_5 (by decide) ?_
  refine ww_minN C (by omega) ml_X1_56 kj_min_s kj_math_i kj_min_c ⟨Nat.le_of_ble_eq_true rfl, Nat.le_of_ble_eq_true rfl⟩ ⟨Nat.le_of_ble_eq_true rfl, Nat.le_of_ble_eq_true rfl⟩ dX1_learn_7 ?_
  refine ww_topi (show nI (min p 8) = nI p by rw [Nat.min_eq_left (by omega)]) ?_
  refine ww_putI C fl_X1_9 hG.1 (Nat.le_of_ble_eq_true rfl) rfl dX1_learn_10 (fun w1 hw1 => ?_)
  have hf : fr w w1 k (k + 10) := hf.tr (fr.up hw1 (by omega) (by omega))
  have hH := hH.frm (fr.up (a := k) (b := k + 10) hw1 (by omega) (by omega)) (by omega)
  have hN := hN.fr (fr.up (a := k) (b := k + 10) hw1 (by omega) (by omega)) (by omega)
  have hzz := hG.2.2.2.2.2.2.2.2.2.2.2.2.2.2.2.2.2.2
  have hG := hG.setO hw1 (by omega)
  refine ww_aload0 C dX1_learn_13 ?_
  refine ww_aload1 C dX1_learn_14 ?_
  refine ww_getf C fl_X1_62 hH.1 rfl dX1_learn_15 ?_
  refine ww_putI C fl_X1_15 hG.1 (Nat.le_of_ble_eq_true rfl) rfl dX1_learn_18 (fun w2 hw2 => ?_)
  have hf : fr w w2 k (k + 10) := hf.tr (fr.up hw2 (by omega) (by omega))
  have hH := hH.frm (fr.up (a := k) (b := k + 10) hw2 (by omega) (by omega)) (by omega)
  have hN := hN.fr (fr.up (a := k) (b := k + 10) hw2 (by omega) (by omega)) (by omega)
  have hzz := hG.2.2.2.2.2.2.2.2.2.2.2.2.2.2.2.2.2.2
  have hG := hG.setO hw2 (by omega)
  refine ww_aload0 C dX1_learn_21 ?_
  refine ww_aload1 C dX1_learn_22 ?_
  refine ww_getf C fl_X1_65 hH.1 rfl dX1_learn_23 ?_
  refine ww_putI C fl_X1_18 hG.1 (Nat.le_of_ble_eq_true rfl) rfl dX1_learn_26 (fun w3 hw3 => ?_)
  have hf : fr w w3 k (k + 10) := hf.tr (fr.up hw3 (by omega) (by omega))
  have hH := hH.frm (fr.up (a := k) (b := k + 10) hw3 (by omega) (by omega)) (by omega)
  have hN := hN.fr (fr.up (a := k) (b := k + 10) hw3 (by omega) (by omega)) (by omega)
  have hzz := hG.2.2.2.2.2.2.2.2.2.2.2.2.2.2.2.2.2.2
  have hG := hG.setO hw3 (by omega)
  refine ww_iconst C (v := nI 0) dX1_learn_29 (by decide) ?_
  refine ww_istore3 C dX1_learn_30 (by decide) rfl ?_
  have lp31 : ∀ (m : Nat) (i : Nat) (u : Wd), i ≤ p → p < i + m → GR u k p b2 v2 (filN (longN K2 M2) Lo i) (filN (beatN K2 M2 S2 be) Be i) (filN X Pa i) (filN R Ra i) Ti Wk Hi Pk Odr od → HR u h K M S p X R wo sh be b2 v2 mi → NR u j K2 M2 S2 p → fr w u k (k + 10) → WW g x 4 0 0 n u 31 [some (.ref k), some (.ref h), some (.ref j), some (.int (nI i))] [] := by
    intro m
    induction m with
    | zero =>
      intro i u hi0 hm hG hH hN hf
      exact absurd hm (by omega)
    | succ m ih31 =>
      intro i u hi0 hm hG hH hN hf
      refine ww_iload3 C dX1_learn_31 ?_
      refine ww_aload0 C dX1_learn_32 ?_
      refine ww_getf C fl_X1_9 hG.1 rfl dX1_learn_33 ?_
      refine ww_icmpgeN C (by omega) (tgt := 90) dX1_learn_36 (by decide) (fun c36 => ?_) (fun c36 => ?_)
      · skip
        have e : p = i := by omega
        subst e
        exact ww_rvq C dX1_learn_90 rfl ⟨Nat.le_of_ble_eq_true rfl, Nat.le_of_ble_eq_true rfl⟩ ⟨hG, hf⟩
      · skip
        refine ww_aload0 C dX1_learn_39 ?_
        refine ww_getf C fl_X1_21 hG.1 rfl dX1_learn_40 ?_
        refine ww_iload3 C dX1_learn_43 ?_
        refine ww_aload2 C dX1_learn_44 ?_
        refine ww_iload3 C dX1_learn_45 ?_
        have hbl := longN_le (K := K2) (hN.2.2.2.2.2.2.1 i)
        have hbb := beatN_le (K := K2) (S := S2) hN.2.2.2.2.2.2.1 hH.2.2.2.2.2.2.2.2.2.2.2.1 i
        have hbx := hH.2.2.2.2.2.2.2.1 i
        have hbr := hH.2.2.2.2.2.2.2.2.1 i
        refine ww_cV1v C hN.1 rfl (c_longOf g n u hN c36) kV_X1_66 ⟨Nat.le_of_ble_eq_true rfl, Nat.le_of_ble_eq_true rfl⟩ ⟨rfl, rfl⟩ ⟨Nat.le_of_ble_eq_true rfl, Nat.le_of_ble_eq_true rfl⟩ (Nat.le_of_ble_eq_true rfl) dX1_learn_46 ?_
        refine ww_iastN C hG.2.1 (by omega) dX1_learn_49 (kk := fun w4 hw4 => ?_)
        have hf : fr w w4 k (k + 10) := hf.tr (fr.up hw4 (by omega) (by omega))
        have hH := hH.frm (fr.up (a := k) (b := k + 10) hw4 (by omega) (by omega)) (by omega)
        have hN := hN.fr (fr.up (a := k) (b := k + 10) hw4 (by omega) (by omega)) (by omega)
        have hG := hG.setLo hw4 (up_le hG.2.2.2.2.2.2.2.2.2.2.1 (by omega))
        refine ww_aload0 C dX1_learn_50 ?_
        refine ww_getf C fl_X1_25 hG.1 rfl dX1_learn_51 ?_
        refine ww_iload3 C dX1_learn_54 ?_
        refine ww_aload1 C dX1_learn_55 ?_
        refine ww_aload2 C dX1_learn_56 ?_
        refine ww_iload3 C dX1_learn_57 ?_
        refine ww_cV2v C hH.1 rfl (c_beatsOf g n w4 hH hN c36) kV_X1_70 ⟨Nat.le_of_ble_eq_true rfl, Nat.le_of_ble_eq_true rfl⟩ ⟨rfl, rfl⟩ ⟨Nat.le_of_ble_eq_true rfl, Nat.le_of_ble_eq_true rfl⟩ (Nat.le_of_ble_eq_true rfl) dX1_learn_58 ?_
        refine ww_iastN C hG.2.2.1 (by omega) dX1_learn_61 (kk := fun w5 hw5 => ?_)
        have hf : fr w w5 k (k + 10) := hf.tr (fr.up hw5 (by omega) (by omega))
        have hH := hH.frm (fr.up (a := k) (b := k + 10) hw5 (by omega) (by omega)) (by omega)
        have hN := hN.fr (fr.up (a := k) (b := k + 10) hw5 (by omega) (by omega)) (by omega)
        have hG := hG.setBe hw5 (up_le hG.2.2.2.2.2.2.2.2.2.2.2.1 (by omega))
        refine ww_aload0 C dX1_learn_62 ?_
        refine ww_getf C fl_X1_28 hG.1 rfl dX1_learn_63 ?_
        refine ww_iload3 C dX1_learn_66 ?_
        refine ww_aload1 C dX1_learn_67 ?_
        refine ww_iload3 C dX1_learn_68 ?_
        refine ww_cV1v C hH.1 rfl (c_pacesOf g n w5 hH c36) kV_X1_74 ⟨Nat.le_of_ble_eq_true rfl, Nat.le_of_ble_eq_true rfl⟩ ⟨rfl, rfl⟩ ⟨Nat.le_of_ble_eq_true rfl, Nat.le_of_ble_eq_true rfl⟩ (Nat.le_of_ble_eq_true rfl) dX1_learn_69 ?_
        refine ww_iastN C hG.2.2.2.1 (by omega) dX1_learn_72 (kk := fun w6 hw6 => ?_)
        have hf : fr w w6 k (k + 10) := hf.tr (fr.up hw6 (by omega) (by omega))
        have hH := hH.frm (fr.up (a := k) (b := k + 10) hw6 (by omega) (by omega)) (by omega)
        have hN := hN.fr (fr.up (a := k) (b := k + 10) hw6 (by omega) (by omega)) (by omega)
        have hG := hG.setPa hw6 (up_le hG.2.2.2.2.2.2.2.2.2.2.2.2.1 (by omega))
        refine ww_aload0 C dX1_learn_73 ?_
        refine ww_getf C fl_X1_31 hG.1 rfl dX1_learn_74 ?_
        refine ww_iload3 C dX1_learn_77 ?_
        refine ww_aload1 C dX1_learn_78 ?_
        refine ww_iload3 C dX1_learn_79 ?_
        refine ww_cV1v C hH.1 rfl (c_rankOf g n w6 hH c36) kV_X1_77 ⟨Nat.le_of_ble_eq_true rfl, Nat.le_of_ble_eq_true rfl⟩ ⟨rfl, rfl⟩ ⟨Nat.le_of_ble_eq_true rfl, Nat.le_of_ble_eq_true rfl⟩ (Nat.le_of_ble_eq_true rfl) dX1_learn_80 ?_
        refine ww_iastN C hG.2.2.2.2.1 (by omega) dX1_learn_83 (kk := fun w7 hw7 => ?_)
        have hf : fr w w7 k (k + 10) := hf.tr (fr.up hw7 (by omega) (by omega))
        have hH := hH.frm (fr.up (a := k) (b := k + 10) hw7 (by omega) (by omega)) (by omega)
        have hN := hN.fr (fr.up (a := k) (b := k + 10) hw7 (by omega) (by omega)) (by omega)
        have hG := hG.setRa hw7 (up_le hG.2.2.2.2.2.2.2.2.2.2.2.2.2.1 (by omega))
        refine ww_iincN3 C dX1_learn_84 (by decide) rfl ?_
        refine ww_goto C (tgt := 31) dX1_learn_87 (by decide) ?_
        exact ih31 (i + 1) _ (by omega) (by omega) (by rw [← filN_s, ← filN_s, ← filN_s, ← filN_s]; exact hG) hH hN hf
  exact lp31 (p + 1) 0 _ (by omega) (by omega) (by rw [filN_0, filN_0, filN_0, filN_0]; exact hG) hH hN hf
theorem c_inOrder (g : Gx) (n : Nat) (w : Wd) {k pe b v od : Nat} {Lo Be Pa Ra Ti Wk Hi Odr : Nat → Nat} {Pk : Nat → Int32} (hG : GR w k pe b v Lo Be Pa Ra Ti Wk Hi Pk Odr od) {i : Nat} (hi : i ≤ 7) : CT g yX1_inOrder cX1_inOrder 2 (some .int) rm_X1_inOrder n n w [.ref k, .int (nI i)] (Rv (.int (if i < od then nI (Odr i) else -4)) w) := by
  have hzz := hG.2.2.2.2.2.2.2.2.2.2.2.2.2.2.2.2.2.2
  refine CT.start [some (.ref k), some (.int (nI i))] (by decide +kernel) rfl (Nat.le_of_ble_eq_true rfl) (fun x C hnm => ?_)
  refine ww_iload1 C dX1_inOrder_0 ?_
  refine ww_iconst C (v := nI 0) dX1_inOrder_1 (by decide) ?_
  refine ww_aload0 C dX1_inOrder_2 ?_
  refine ww_getf C fl_X1_50 hG.1 rfl dX1_inOrder_3 ?_
  refine ww_iconst C (v := nI 1) dX1_inOrder_6 (by decide) ?_
  refine ww_isub C dX1_inOrder_7 ?_
  refine ww_cSN3v C (c_within g n w _ _ _) kSN_X1_80 ⟨Nat.le_of_ble_eq_true rfl, Nat.le_of_ble_eq_true rfl⟩ ⟨rfl, rfl⟩ ⟨Nat.le_of_ble_eq_true rfl, Nat.le_of_ble_eq_true rfl⟩ (Nat.le_of_ble_eq_true rfl) dX1_inOrder_8 ?_
  refine ww_topi (show bz _ = bz (decide (i < od)) by rw [wb_P (by omega)]; unfold hb; rw [nI_toInt (by omega)]; congr 1; exact decide_eq_decide.mpr (by omega)) ?_
  refine ww_ifeqB C (tgt := 29) dX1_inOrder_11 (by decide) (fun c11 => ?_) (fun c11 => ?_)
  · skip
    have c11 := of_decide_eq_false c11
    refine ww_bipush C (v := -4) dX1_inOrder_29 (by decide) ?_
    exact ww_ri C dX1_inOrder_31 rfl ⟨Nat.le_of_ble_eq_true rfl, Nat.le_of_ble_eq_true rfl⟩ (by rw [if_neg c11]) rfl
  · skip
    have c11 := of_decide_eq_true c11
    refine ww_iload1 C dX1_inOrder_14 ?_
    refine ww_bipush C (v := nI 8) dX1_inOrder_15 (by decide) ?_
    refine ww_icmpgeN C (by omega) (tgt := 29) dX1_inOrder_17 (by decide) (fun c17 => ?_) (fun c17 => ?_)
    · skip
      omega
    · skip
      refine ww_aload0 C dX1_inOrder_20 ?_
      refine ww_getf C fl_X1_47 hG.1 rfl dX1_inOrder_21 ?_
      refine ww_iload1 C dX1_inOrder_24 ?_
      refine ww_ialdN C hG.2.2.2.2.2.2.2.2.2.1 (by omega) dX1_inOrder_25 (kk := ?_)
      refine ww_goto C (tgt := 31) dX1_inOrder_26 (by decide) ?_
      exact ww_ri C dX1_inOrder_31 rfl ⟨Nat.le_of_ble_eq_true rfl, Nat.le_of_ble_eq_true rfl⟩ (by rw [if_pos c11]) rfl
theorem c_breathsFor (g : Gx) (n : Nat) (w : Wd) {k pe b v od : Nat} {Lo Be Pa Ra Ti Wk Hi Odr : Nat → Nat} {Pk : Nat → Int32} (hG : GR w k pe b v Lo Be Pa Ra Ti Wk Hi Pk Odr od) {q : Nat} (hb1 : 1 ≤ b) (hq : q < 1000000) : CT g yX1_breathsFor cX1_breathsFor 2 (some .int) rm_X1_breathsFor n n w [.ref k, .int (nI q)] (Rv (.int (nI ((q + b - 1) / b))) w) := by
  have hzz := hG.2.2.2.2.2.2.2.2.2.2.2.2.2.2.2.2.2.2
  refine CT.start [some (.ref k), some (.int (nI q))] (by decide +kernel) rfl (Nat.le_of_ble_eq_true rfl) (fun x C hnm => ?_)
  refine ww_aload0 C dX1_breathsFor_0 ?_
  refine ww_getf C fl_X1_15 hG.1 rfl dX1_breathsFor_1 ?_
  refine ww_iconst C (v := nI 1) dX1_breathsFor_4 (by decide) ?_
  refine ww_icmpgeN C (by omega) (tgt := 12) dX1_breathsFor_5 (by decide) (fun c5 => ?_) (fun c5 => ?_)
  · skip
    refine ww_iload1 C dX1_breathsFor_12 ?_
    refine ww_aload0 C dX1_breathsFor_13 ?_
    refine ww_getf C fl_X1_15 hG.1 rfl dX1_breathsFor_14 ?_
    refine ww_iaddN C dX1_breathsFor_17 ?_
    refine ww_iconst C (v := nI 1) dX1_breathsFor_18 (by decide) ?_
    refine ww_isubN C (by omega) dX1_breathsFor_19 ?_
    refine ww_aload0 C dX1_breathsFor_20 ?_
    refine ww_getf C fl_X1_15 hG.1 rfl dX1_breathsFor_21 ?_
    refine ww_idivN C (by omega) dX1_breathsFor_24 ?_
    exact ww_ri C dX1_breathsFor_25 rfl ⟨Nat.le_of_ble_eq_true rfl, Nat.le_of_ble_eq_true rfl⟩ rfl rfl
  · skip
    omega
def cryN (p : Nat) (Lo Be : Nat → Nat) (b v s : Nat) : Nat := if sumN (fun i => if tb s i = true then Lo i else 0) p = 0 then sumN (fun i => if tb s i = true then Be i else 0) p else sumN (fun i => if tb s i = true then Be i else 0) p + v * ((sumN (fun i => if tb s i = true then Lo i else 0) p + b - 1) / b - 1)
theorem sumI_t (f : Nat → Nat) {s i : Nat} (h : tb s i = true) : sumN (fun i => if tb s i = true then f i else 0) (i + 1) = sumN (fun i => if tb s i = true then f i else 0) i + f i := by
  show sumN (fun i => if tb s i = true then f i else 0) i + (if tb s i = true then f i else 0) = _
  rw [if_pos h]
theorem sumI_f (f : Nat → Nat) {s i : Nat} (h : tb s i = false) : sumN (fun i => if tb s i = true then f i else 0) (i + 1) = sumN (fun i => if tb s i = true then f i else 0) i := by
  show sumN (fun i => if tb s i = true then f i else 0) i + (if tb s i = true then f i else 0) = _
  rw [if_neg (by rw [h]; decide)]
  rfl
theorem sumN_b {f : Nat → Nat} {b : Nat} (h : ∀ i, f i ≤ b) {n : Nat} (hn : n ≤ 8) : sumN f n ≤ 8 * b := Nat.le_trans (sumN_le h n) (Nat.mul_le_mul_right b hn)
theorem ite_le {c : Prop} [Decidable c] {a b : Nat} (h : a ≤ b) : (if c then a else 0) ≤ b := by split <;> omega
theorem div_b {a b : Nat} (h : a ≤ 171) (hb : 1 ≤ b) : a / b ≤ 171 := Nat.le_trans (Nat.div_le_self a b) h
theorem cryN_le {p : Nat} {Lo Be : Nat → Nat} {b v s : Nat} (hL : ∀ i, Lo i ≤ 20) (hB : ∀ i, Be i ≤ 360) (hp : p ≤ 8) (hb : b ≤ 12) (hb1 : 1 ≤ b) (hv : v ≤ 20) : cryN p Lo Be b v s ≤ 6500 := by
  have h1 := sumN_b (f := fun i => if tb s i = true then Lo i else 0) (b := 20) (fun i => ite_le (hL i)) hp
  have h2 := sumN_b (f := fun i => if tb s i = true then Be i else 0) (b := 360) (fun i => ite_le (hB i)) hp
  have h3 := div_b (a := sumN (fun i => if tb s i = true then Lo i else 0) p + b - 1) (b := b) (by omega) hb1
  have h4 : v * ((sumN (fun i => if tb s i = true then Lo i else 0) p + b - 1) / b - 1) ≤ 20 * 171 := Nat.mul_le_mul hv (by omega)
  unfold cryN
  split <;> omega
theorem c_beatsToCall (g : Gx) (n : Nat) (w : Wd) {k pe b v od : Nat} {Lo Be Pa Ra Ti Wk Hi Odr : Nat → Nat} {Pk : Nat → Int32} (hG : GR w k pe b v Lo Be Pa Ra Ti Wk Hi Pk Odr od) {s : Nat} (hb1 : 1 ≤ b) (hs : s < 2147483648) : CT g yX1_beatsToCall cX1_beatsToCall 5 (some .int) rm_X1_beatsToCall n n w [.ref k, .int (nI s)] (Rv (.int (nI (cryN pe Lo Be b v s))) w) := by
  have hzz := hG.2.2.2.2.2.2.2.2.2.2.2.2.2.2.2.2.2.2
  have hSL := sumN_b (f := fun i => if tb s i = true then Lo i else 0) (b := 20) (fun i => ite_le (hG.2.2.2.2.2.2.2.2.2.2.1 i)) hzz.1
  refine CT.start [some (.ref k), some (.int (nI s)), none, none, none] (by decide +kernel) rfl (Nat.le_of_ble_eq_true rfl) (fun x C hnm => ?_)
  refine ww_iconst C (v := nI 0) dX1_beatsToCall_0 (by decide) ?_
  refine ww_istore2 C dX1_beatsToCall_1 (by decide) rfl ?_
  refine ww_iconst C (v := nI 0) dX1_beatsToCall_2 (by decide) ?_
  refine ww_istore3 C dX1_beatsToCall_3 (by decide) rfl ?_
  refine ww_iconst C (v := nI 0) dX1_beatsToCall_4 (by decide) ?_
  refine ww_istore4 C dX1_beatsToCall_5 (by decide) rfl ?_
  have lp7 : ∀ (m : Nat) (i bs ys : Nat), i ≤ pe → pe < i + m → bs = (sumN (fun i => if tb s i = true then Be i else 0) i) → ys = (sumN (fun i => if tb s i = true then Lo i else 0) i) → WW g x 5 0 0 n w 7 [some (.ref k), some (.int (nI s)), some (.int (nI bs)), some (.int (nI ys)), some (.int (nI i))] [] := by
    intro m
    induction m with
    | zero =>
      intro i bs ys hi0 hm hx hy
      exact absurd hm (by omega)
    | succ m ih7 =>
      intro i bs ys hi0 hm hx hy
      refine ww_iload4 C dX1_beatsToCall_7 ?_
      refine ww_aload0 C dX1_beatsToCall_9 ?_
      refine ww_getf C fl_X1_9 hG.1 rfl dX1_beatsToCall_10 ?_
      refine ww_icmpgeN C (by omega) (tgt := 51) dX1_beatsToCall_13 (by decide) (fun c13 => ?_) (fun c13 => ?_)
      · skip
        have e : pe = i := by omega
        subst e
        subst hx
        subst hy
        refine ww_iload3 C dX1_beatsToCall_51 ?_
        refine ww_ifneN C (by omega) (tgt := 59) dX1_beatsToCall_52 (by decide) (fun c52 => ?_) (fun c52 => ?_)
        · skip
          skip
          refine ww_iload2 C dX1_beatsToCall_59 ?_
          refine ww_aload0 C dX1_beatsToCall_60 ?_
          refine ww_getf C fl_X1_18 hG.1 rfl dX1_beatsToCall_61 ?_
          refine ww_aload0 C dX1_beatsToCall_64 ?_
          refine ww_iload3 C dX1_beatsToCall_65 ?_
          refine ww_cV1v C hG.1 rfl (c_breathsFor g n w hG hb1 (by omega)) kV_X1_88 ⟨Nat.le_of_ble_eq_true rfl, Nat.le_of_ble_eq_true rfl⟩ ⟨rfl, rfl⟩ ⟨Nat.le_of_ble_eq_true rfl, Nat.le_of_ble_eq_true rfl⟩ (Nat.le_of_ble_eq_true rfl) dX1_beatsToCall_66 ?_
          refine ww_iconst C (v := nI 1) dX1_beatsToCall_69 (by decide) ?_
          refine ww_isubN C (by have := Nat.div_pos (a := (sumN (fun i => if tb s i = true then Lo i else 0) pe) + b - 1) (b := b) (by omega) (by omega); omega) dX1_beatsToCall_70 ?_
          refine ww_imulN C dX1_beatsToCall_71 ?_
          refine ww_iaddN C dX1_beatsToCall_72 ?_
          exact ww_ri C dX1_beatsToCall_73 rfl ⟨Nat.le_of_ble_eq_true rfl, Nat.le_of_ble_eq_true rfl⟩ (by unfold cryN; rw [if_neg c52]) rfl
        · skip
          refine ww_iload2 C dX1_beatsToCall_55 ?_
          refine ww_goto C (tgt := 73) dX1_beatsToCall_56 (by decide) ?_
          exact ww_ri C dX1_beatsToCall_73 rfl ⟨Nat.le_of_ble_eq_true rfl, Nat.le_of_ble_eq_true rfl⟩ (by unfold cryN; rw [if_pos c52]) rfl
      · skip
        refine ww_iload4 C dX1_beatsToCall_16 ?_
        refine ww_iload1 C dX1_beatsToCall_18 ?_
        refine ww_cSN2v C (c_isOf g n w _ _ (by omega) hs) kSN_X1_84 ⟨Nat.le_of_ble_eq_true rfl, Nat.le_of_ble_eq_true rfl⟩ ⟨rfl, rfl⟩ ⟨Nat.le_of_ble_eq_true rfl, Nat.le_of_ble_eq_true rfl⟩ (Nat.le_of_ble_eq_true rfl) dX1_beatsToCall_19 ?_
        refine ww_ifeqB C (tgt := 45) dX1_beatsToCall_22 (by decide) (fun c22 => ?_) (fun c22 => ?_)
        · skip
          refine ww_iincN4 C dX1_beatsToCall_45 (by decide) rfl ?_
          refine ww_goto C (tgt := 7) dX1_beatsToCall_48 (by decide) ?_
          exact ih7 (i + 1) _ _ (by omega) (by omega) (by rw [sumI_f _ c22, hx]) (by rw [sumI_f _ c22, hy])
        · skip
          refine ww_iload2 C dX1_beatsToCall_25 ?_
          refine ww_aload0 C dX1_beatsToCall_26 ?_
          refine ww_getf C fl_X1_25 hG.1 rfl dX1_beatsToCall_27 ?_
          refine ww_iload4 C dX1_beatsToCall_30 ?_
          refine ww_ialdN C hG.2.2.1 (by omega) dX1_beatsToCall_32 (kk := ?_)
          refine ww_iaddN C dX1_beatsToCall_33 ?_
          refine ww_istore2 C dX1_beatsToCall_34 (by decide) rfl ?_
          refine ww_iload3 C dX1_beatsToCall_35 ?_
          refine ww_aload0 C dX1_beatsToCall_36 ?_
          refine ww_getf C fl_X1_21 hG.1 rfl dX1_beatsToCall_37 ?_
          refine ww_iload4 C dX1_beatsToCall_40 ?_
          refine ww_ialdN C hG.2.1 (by omega) dX1_beatsToCall_42 (kk := ?_)
          refine ww_iaddN C dX1_beatsToCall_43 ?_
          refine ww_istore3 C dX1_beatsToCall_44 (by decide) rfl ?_
          refine ww_iincN4 C dX1_beatsToCall_45 (by decide) rfl ?_
          refine ww_goto C (tgt := 7) dX1_beatsToCall_48 (by decide) ?_
          exact ih7 (i + 1) _ _ (by omega) (by omega) (by rw [sumI_t _ c22, hx]) (by rw [sumI_t _ c22, hy])
  exact lp7 (pe + 1) 0 0 0 (by omega) (by omega) rfl rfl
