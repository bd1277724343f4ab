theorem upb (t : Nat → Nat) (i c : Nat) : va_up (fun j => sb_b (t j)) i (sb_b c) = fun j => sb_b (va_up t i c j) := by
  funext j
  unfold va_up
  split <;> rfl
theorem c_put (g : Gx) (n : Nat) (w : Wd) {k len pl : Nat} {t nm : Nat → Nat} (hS : SR w k t len pl nm) {q : Nat} (v : Int64) (hq1 : 1 ≤ q) (hq8 : q ≤ 8) (hroom : len + q ≤ 400) : CT g yX5_put cX5_put 5 none rm_X5_put n n w [.ref k, .int (nI q), .long v] (R0q (fun w1 => SR w1 k (ptN t len q v q) (len + q) pl nm ∧ fr w w1 k (k + 3))) := by
  have hf : fr w w k (k + 3) := fr.rf
  have hlen := hS.2.2.2.1
  have hpl := hS.2.2.2.2.1
  have ht := hS.2.2.2.2.2.1
  refine CT.start [some (.ref k), some (.int (nI q)), some (.long v), none, none] (by decide +kernel) rfl (Nat.le_of_ble_eq_true rfl) (fun x C hnm => ?_)
  refine ww_iload1 C dX5_put_0 ?_
  refine ww_iconst C (v := nI 1) dX5_put_1 (by decide) ?_
  refine ww_isubN C (by omega) dX5_put_2 ?_
  refine ww_topi (show nI (q - 1) = nI q - 1 by rw [show q = (q - 1) + 1 by omega, nI_pred]; rfl) ?_
  refine ww_istore4 C dX5_put_3 (by decide) rfl ?_
  have lp5 : ∀ (m : Nat) (r : Nat) (u : Wd), r ≤ q → r < m → SR u k (ptN t len q v (q - r)) (len + (q - r)) pl nm → fr w u k (k + 3) → WW g x 5 0 0 n u 5 [some (.ref k), some (.int (nI q)), some (.long v), none, some (.int (nI r - 1))] [] := by
    intro m
    induction m with
    | zero =>
      intro r u hr0 hm hS hf
      exact absurd hm (by omega)
    | succ m ih5 =>
      intro r u hr0 hm hS hf
      rcases r with _ | d
      · skip
        refine ww_iload4 C dX5_put_5 ?_
        refine ww_iflt C (tgt := 54) dX5_put_7 (by decide) (fun c7 => ?_) (fun c7 => ?_)
        · skip
          exact ww_rvq C dX5_put_54 rfl ⟨Nat.le_of_ble_eq_true rfl, Nat.le_of_ble_eq_true rfl⟩ ⟨by rw [Nat.sub_zero] at hS; exact hS, hf⟩
        · skip
          exact absurd (by decide) c7
      · skip
        rw [nI_pred]
        refine ww_iload4 C dX5_put_5 ?_
        refine ww_iflt C (tgt := 54) dX5_put_7 (by decide) (fun c7 => ?_) (fun c7 => ?_)
        · skip
          exact absurd c7 (nI_pos (by omega))
        · skip
          refine ww_aload0 C dX5_put_10 ?_
          refine ww_getf C fl_X5_15 hS.1 rfl dX5_put_11 ?_
          refine ww_sipush C (v := nI 400) dX5_put_14 (by decide) ?_
          refine ww_icmpgeN C (by omega) (tgt := 54) dX5_put_17 (by decide) (fun c17 => ?_) (fun c17 => ?_)
          · skip
            omega
          · skip
            refine ww_aload0 C dX5_put_20 ?_
            refine ww_getf C fl_X5_9 hS.1 rfl dX5_put_21 ?_
            refine ww_aload0 C dX5_put_24 ?_
            refine ww_getf C fl_X5_15 hS.1 rfl dX5_put_25 ?_
            refine ww_lload2 C dX5_put_28 ?_
            refine ww_bipush C (v := nI 8) dX5_put_29 (by decide) ?_
            refine ww_iload4 C dX5_put_31 ?_
            refine ww_imulN C dX5_put_33 ?_
            refine ww_lushr C dX5_put_34 ?_
            refine ww_l2i C dX5_put_35 ?_
            refine ww_i2b C dX5_put_36 ?_
            refine ww_bastN C hS.2.1 (by omega) dX5_put_37 (kk := fun w1 hw1 => ?_)
            have hf : fr w w1 k (k + 3) := hf.tr (fr.up hw1 (by omega) (by omega))
            have hS := hS.setT (t2 := ptN t len q v (q - (d + 1) + 1)) hw1 (by rw [byte_put v (by omega), upb, ← ptN_s, show q - 1 - (q - (d + 1)) = d by omega]) (ptN_lt ht _ _ _ _)
            refine ww_aload0 C dX5_put_38 ?_
            refine ww_dup C dX5_put_39 rfl ?_
            refine ww_getf C fl_X5_15 hS.1 rfl dX5_put_40 ?_
            refine ww_iconst C (v := nI 1) dX5_put_43 (by decide) ?_
            refine ww_iaddN C dX5_put_44 ?_
            refine ww_putI C fl_X5_15 hS.1 (Nat.le_of_ble_eq_true rfl) rfl dX5_put_45 (fun w2 hw2 => ?_)
            have hf : fr w w2 k (k + 3) := hf.tr (fr.up hw2 (by omega) (by omega))
            have hS := hS.setO hw2 (by omega)
            refine ww_iinc4 C (u := nI d - 1) dX5_put_48 (dec1 _) (by decide) rfl ?_
            refine ww_goto C (tgt := 5) dX5_put_51 (by decide) ?_
            exact ih5 d _ (by omega) (by omega) (by rw [show q - d = q - (d + 1) + 1 by omega]; exact hS) hf
  exact lp5 (q + 1) q _ (by omega) (by omega) (by rw [Nat.sub_self, ptN_0]; exact hS) hf
abbrev Ms : Type := (Nat → Nat) × (Nat → Nat) × (Nat → Nat) × (Nat → Nat) × Nat
def MYs (w : Wd) (k : Nat) (a : Ms) (p : Nat) : Prop := MY w k a.1 a.2.1 a.2.2.1 p a.2.2.2.1 a.2.2.2.2
def GX (w : Wd) : Prop := ∃ pe b v Lo Be Pa Ra Ti Wk Hi Pk Odr od, GR w 45 pe b v Lo Be Pa Ra Ti Wk Hi Pk Odr od
def NX (w : Wd) : Prop := ∃ K M S p, NR w 55 K M S p
def CX (w : Wd) (hi dr : Nat) (t : Nat → Nat) (len pl : Nat) (nm : Nat → Nat) (h h' : Hs) (a : Ms) (kn : Nat) (k1 k2 : Ms) (p1 p2 : Nat) : Prop :=
  ((hi = 4 ∧ dr = 14) ∨ (hi = 14 ∧ dr = 4)) ∧ w 0 = ob 6 [.ref 1, .ref hi, .ref dr, .ref 24, .ref 31, .ref 38, .int (nI kn), .ref 45, .ref 55] ∧ SR w 1 t len pl nm ∧ HS w hi h ∧ HS w dr h' ∧ MYs w 24 a h.2.2.2.1 ∧ MYs w 31 k1 p1 ∧ MYs w 38 k2 p2 ∧ GX w ∧ NX w ∧ kn ≤ 2
section CXS
variable {w w1 : Wd} {hi dr : Nat} {t : Nat → Nat} {len pl : Nat} {nm : Nat → Nat} {h h' : Hs} {a : Ms} {kn : Nat} {k1 k2 : Ms} {p1 p2 : Nat}
theorem GX.frm {c d : Nat} (e : GX w) (hf : fr w w1 c d) (hd : 55 ≤ c ∨ d ≤ 45) : GX w1 := by
  obtain ⟨e1, e2, e3, e4, e5, e6, e7, e8, e9, e10, e11, e12, e13, e⟩ := e
  exact ⟨e1, e2, e3, e4, e5, e6, e7, e8, e9, e10, e11, e12, e13, e.frm hf (by omega)⟩
theorem NX.frm {c d : Nat} (e : NX w) (hf : fr w w1 c d) (hd : 59 ≤ c ∨ d ≤ 55) : NX w1 := by
  obtain ⟨e1, e2, e3, e4, e⟩ := e
  exact ⟨e1, e2, e3, e4, e.fr hf (by omega)⟩
theorem MYs.frm {k p c d : Nat} {b : Ms} (e : MYs w k b p) (hf : fr w w1 c d) (hd : k + 7 ≤ c ∨ d ≤ k) : MYs w1 k b p := MY.frm e hf hd
theorem CX.now {a2 : Ms} (e : CX w hi dr t len pl nm h h' a kn k1 k2 p1 p2) (q : MYs w1 24 a2 h.2.2.2.1) (hf : fr w w1 24 31) : CX w1 hi dr t len pl nm h h' a2 kn k1 k2 p1 p2 := by
  obtain ⟨c0, c1, c2, c3, c4, c5, c6, c7, c8, c9, c10⟩ := e
  exact ⟨c0, (hf 0 (by omega)).trans c1, c2.frm hf (by omega), c3.frm2 hf (by omega), c4.frm2 hf (by omega), q, c6.frm hf (by omega), c7.frm hf (by omega), c8.frm hf (by omega), c9.frm hf (by omega), c10⟩
theorem CX.g  (e : CX w hi dr t len pl nm h h' a kn k1 k2 p1 p2) (q : GX w1) (hf : fr w w1 45 55) : CX w1 hi dr t len pl nm h h' a kn k1 k2 p1 p2 := by
  obtain ⟨c0, c1, c2, c3, c4, c5, c6, c7, c8, c9, c10⟩ := e
  exact ⟨c0, (hf 0 (by omega)).trans c1, c2.frm hf (by omega), c3.frm2 hf (by omega), c4.frm2 hf (by omega), c5.frm hf (by omega), c6.frm hf (by omega), c7.frm hf (by omega), q, c9.frm hf (by omega), c10⟩
theorem CX.tr  (e : CX w hi dr t len pl nm h h' a kn k1 k2 p1 p2) (q : NX w1) (hf : fr w w1 55 59) : CX w1 hi dr t len pl nm h h' a kn k1 k2 p1 p2 := by
  obtain ⟨c0, c1, c2, c3, c4, c5, c6, c7, c8, c9, c10⟩ := e
  exact ⟨c0, (hf 0 (by omega)).trans c1, c2.frm hf (by omega), c3.frm2 hf (by omega), c4.frm2 hf (by omega), c5.frm hf (by omega), c6.frm hf (by omega), c7.frm hf (by omega), c8.frm hf (by omega), q, c10⟩
theorem CX.sc {t2 : Nat → Nat} {len2 pl2 : Nat} {nm2 : Nat → Nat} (e : CX w hi dr t len pl nm h h' a kn k1 k2 p1 p2) (q : SR w1 1 t2 len2 pl2 nm2) (hf : fr w w1 1 4) : CX w1 hi dr t2 len2 pl2 nm2 h h' a kn k1 k2 p1 p2 := by
  obtain ⟨c0, c1, c2, c3, c4, c5, c6, c7, c8, c9, c10⟩ := e
  exact ⟨c0, (hf 0 (by omega)).trans c1, q, c3.frm2 hf (by omega), c4.frm2 hf (by omega), c5.frm hf (by omega), c6.frm hf (by omega), c7.frm hf (by omega), c8.frm hf (by omega), c9.frm hf (by omega), c10⟩
theorem CX.sk1 {b : Ms} {q1 : Nat} (e : CX w hi dr t len pl nm h h' a kn k1 k2 p1 p2) (q : MYs w1 31 b q1) (hf : fr w w1 31 38) : CX w1 hi dr t len pl nm h h' a kn b k2 q1 p2 := by
  obtain ⟨c0, c1, c2, c3, c4, c5, c6, c7, c8, c9, c10⟩ := e
  exact ⟨c0, (hf 0 (by omega)).trans c1, c2.frm hf (by omega), c3.frm2 hf (by omega), c4.frm2 hf (by omega), c5.frm hf (by omega), q, c7.frm hf (by omega), c8.frm hf (by omega), c9.frm hf (by omega), c10⟩
theorem CX.sk2 {b : Ms} {q2 : Nat} (e : CX w hi dr t len pl nm h h' a kn k1 k2 p1 p2) (q : MYs w1 38 b q2) (hf : fr w w1 38 45) : CX w1 hi dr t len pl nm h h' a kn k1 b p1 q2 := by
  obtain ⟨c0, c1, c2, c3, c4, c5, c6, c7, c8, c9, c10⟩ := e
  exact ⟨c0, (hf 0 (by omega)).trans c1, c2.frm hf (by omega), c3.frm2 hf (by omega), c4.frm2 hf (by omega), c5.frm hf (by omega), c6.frm hf (by omega), q, c8.frm hf (by omega), c9.frm hf (by omega), c10⟩
theorem CX.rd {pl2 : Nat} {nm2 : Nat → Nat} {h2 : Hs} (e : CX w hi dr t len pl nm h h' a kn k1 k2 p1 p2) (q : SR w1 1 t len pl2 nm2) (q2 : HS w1 dr h2) (hf : fr2 w w1 1 (1 + 3) dr (dr + 10)) : CX w1 hi dr t len pl2 nm2 h h2 a kn k1 k2 p1 p2 := by
  obtain ⟨c0, c1, c2, c3, c4, c5, c6, c7, c8, c9, c10⟩ := e
  have f1 : fr w w1 1 24 := fun j hj => hf j (by omega) (by omega)
  have f2 : HS w1 hi h := by
    have : ∃ v : Wd, fr w v 1 4 ∧ fr v w1 dr (dr + 10) := ⟨fun j => if 1 ≤ j ∧ j < 4 then w1 j else w j, fun j hj => if_neg (by omega), fun j hj => by
      show w1 j = if 1 ≤ j ∧ j < 4 then w1 j else w j
      split
      · rfl
      · exact hf j (by omega) hj⟩
    obtain ⟨v, g1, g2⟩ := this
    exact (c3.frm2 g1 (by omega)).frm2 g2 (by omega)
  exact ⟨c0, (f1 0 (by omega)).trans c1, q, f2, q2, c5.frm f1 (by omega), c6.frm f1 (by omega), c7.frm f1 (by omega), c8.frm f1 (by omega), c9.frm f1 (by omega), c10⟩
theorem CX.skn {kn2 : Nat} (e : CX w hi dr t len pl nm h h' a kn k1 k2 p1 p2) (hw : w1 = va_up w 0 (ob 6 [.ref 1, .ref hi, .ref dr, .ref 24, .ref 31, .ref 38, .int (nI kn2), .ref 45, .ref 55])) (hk : kn2 ≤ 2) : CX w1 hi dr t len pl nm h h' a kn2 k1 k2 p1 p2 := by
  obtain ⟨c0, c1, c2, c3, c4, c5, c6, c7, c8, c9, c10⟩ := e
  have hf : fr w w1 0 1 := fr.up hw (by omega) (by omega)
  exact ⟨c0, by rw [hw]; exact va_upd_self _ _ _, c2.frm hf (by omega), c3.frm2 hf (by omega), c4.frm2 hf (by omega), c5.frm hf (by omega), c6.frm hf (by omega), c7.frm hf (by omega), c8.frm hf (by omega), c9.frm hf (by omega), hk⟩
end CXS
/-- the class's state: the text, the hill, the names, kinds and what was heard, what is kept -/
def CR (w : Wd) (t : Nat → Nat) (len : Nat) (h : Hs) (a : Ms) (kn : Nat) (k1 k2 : Ms) : Prop := ∃ hi dr pl nm h' p1 p2, CX w hi dr t len pl nm h h' a kn k1 k2 p1 p2 ∧ (1 ≤ kn → p1 = h.2.2.2.1) ∧ (2 ≤ kn → p2 = h.2.2.2.1)
/-- a number in 1 .. 2^p - 1 -/
def stB (p : Nat) (s : Int32) : Bool := decide (1 ≤ s.toInt ∧ s.toInt < (2 ^ p : Nat))
theorem stB_of {p : Nat} {s : Int32} (h : stB p s = true) : ∃ j : Nat, 1 ≤ j ∧ j < 2 ^ p ∧ s = nI j := by
  have h := of_decide_eq_true h
  have h2 := s.toInt_lt
  refine ⟨s.toInt.toNat, by omega, by omega, ?_⟩
  apply Int32.toInt_inj.mp
  rw [nI_toInt (by omega)]
  omega
theorem stB_N {p j : Nat} (h1 : 1 ≤ j) (h2 : j < 2 ^ p) (h3 : j < 2147483648) : stB p (nI j) = true := decide_eq_true (by rw [nI_toInt h3]; omega)
theorem wb_S {p : Nat} {s : Int32} (hp : p ≤ 8) : wb (nI 1) (nI (2 ^ p - 1)) s = stB p s := by
  have := p256 hp
  have := Nat.two_pow_pos p
  unfold wb stB
  rw [nI_toInt (n := 1) (by decide), nI_toInt (by omega)]
  exact decide_eq_decide.mpr (by omega)
theorem hb_cl {p : Nat} {i : Int32} (h : hb p i = true) (hp : p ≤ 100000) : i.toNatClampNeg < p ∧ i = nI i.toNatClampNeg := by
  obtain ⟨j, h1, h2⟩ := hb_of h
  have : (nI j).toNatClampNeg = j := nI_clamp (by omega)
  rw [h2, this]
  exact ⟨h1, rfl⟩
theorem c_syllableAt0 (g : Gx) (n : Nat) (w : Wd) {k : Nat} {K M S : Nat → Nat} {p : Nat} (hN : NR w k K M S p) {i j : Nat} (hi : i < p) (hj : ¬ j < M i) (hj2 : j ≤ 1000) : CT g yX4_syllableAt cX4_syllableAt 3 (some .int) rm_X4_syllableAt n n w [.ref k, .int (nI i), .int (nI j)] (Rv (.int (-4)) w) := by
  have hM := hN.2.2.2.2.2.2.1 i
  have hp := hN.2.2.2.2.1
  have hL := longN_le (K := K) hM
  refine CT.start [some (.ref k), some (.int (nI i)), some (.int (nI j))] (by decide +kernel) rfl (Nat.le_of_ble_eq_true rfl) (fun x C hnm => ?_)
  refine ww_aload0 C dX4_syllableAt_0 ?_
  refine ww_iload1 C dX4_syllableAt_1 ?_
  refine ww_cV1v C hN.1 rfl (c_has g n w hN _) kV_X4_31 ⟨Nat.le_of_ble_eq_true rfl, Nat.le_of_ble_eq_true rfl⟩ ⟨rfl, rfl⟩ ⟨Nat.le_of_ble_eq_true rfl, Nat.le_of_ble_eq_true rfl⟩ (Nat.le_of_ble_eq_true rfl) dX4_syllableAt_2 ?_
  refine ww_topi (show bz (hb p (nI i)) = bz true by rw [hb_N hi (by have := hN.2.2.2.2.1; omega)]) ?_
  refine ww_ifeqB C (tgt := 38) dX4_syllableAt_5 (by decide) (fun c5 => ?_) (fun c5 => ?_)
  · skip
    cases c5
  · skip
    refine ww_iload2 C dX4_syllableAt_8 ?_
    refine ww_iconst C (v := nI 0) dX4_syllableAt_9 (by decide) ?_
    refine ww_aload0 C dX4_syllableAt_10 ?_
    refine ww_getf C fl_X4_15 hN.1 rfl dX4_syllableAt_11 ?_
    refine ww_iload1 C dX4_syllableAt_14 ?_
    refine ww_ialdN C hN.2.2.1 (by omega) dX4_syllableAt_15 (kk := ?_)
    refine ww_iconst C (v := nI 1) dX4_syllableAt_16 (by decide) ?_
    refine ww_isub C dX4_syllableAt_17 ?_
    refine ww_cSN3v C (c_within g n w _ _ _) kSN_X4_48 ⟨Nat.le_of_ble_eq_true rfl, Nat.le_of_ble_eq_true rfl⟩ ⟨rfl, rfl⟩ ⟨Nat.le_of_ble_eq_true rfl, Nat.le_of_ble_eq_true rfl⟩ (Nat.le_of_ble_eq_true rfl) dX4_syllableAt_18 ?_
    refine ww_topi (show bz _ = bz false by rw [wb_P (by omega)]; unfold hb; rw [nI_toInt (by omega), decide_eq_false (by omega)]) ?_
    refine ww_ifeqB C (tgt := 38) dX4_syllableAt_21 (by decide) (fun c => ?_) (fun c => ?_)
    · skip
      refine ww_bipush C (v := -4) dX4_syllableAt_38 (by decide) ?_
      exact ww_ri C dX4_syllableAt_40 rfl ⟨Nat.le_of_ble_eq_true rfl, Nat.le_of_ble_eq_true rfl⟩ rfl rfl
    · skip
      cases c
theorem c_saidAt0 (g : Gx) (n : Nat) (w : Wd) {k : Nat} {K M S : Nat → Nat} {p : Nat} (hN : NR w k K M S p) {i j : Nat} (hi : i < p) (hj : ¬ j < longN K M i) (hj2 : j ≤ 1000) : CT g yX4_saidAt cX4_saidAt 4 (some .int) rm_X4_saidAt n n w [.ref k, .int (nI i), .int (nI j)] (Rv (.int (-4)) w) := by
  have hM := hN.2.2.2.2.2.2.1 i
  have hp := hN.2.2.2.2.1
  have hL := longN_le (K := K) hM
  refine CT.start [some (.ref k), some (.int (nI i)), some (.int (nI j)), none] (by decide +kernel) rfl (Nat.le_of_ble_eq_true rfl) (fun x C hnm => ?_)
  refine ww_iload2 C dX4_saidAt_0 ?_
  refine ww_iconst C (v := nI 0) dX4_saidAt_1 (by decide) ?_
  refine ww_aload0 C dX4_saidAt_2 ?_
  refine ww_iload1 C dX4_saidAt_3 ?_
  refine ww_cV1v C hN.1 rfl (c_longOf g n w hN hi) kV_X4_39 ⟨Nat.le_of_ble_eq_true rfl, Nat.le_of_ble_eq_true rfl⟩ ⟨rfl, rfl⟩ ⟨Nat.le_of_ble_eq_true rfl, Nat.le_of_ble_eq_true rfl⟩ (Nat.le_of_ble_eq_true rfl) dX4_saidAt_4 ?_
  refine ww_iconst C (v := nI 1) dX4_saidAt_7 (by decide) ?_
  refine ww_isub C dX4_saidAt_8 ?_
  refine ww_cSN3v C (c_within g n w _ _ _) kSN_X4_48 ⟨Nat.le_of_ble_eq_true rfl, Nat.le_of_ble_eq_true rfl⟩ ⟨rfl, rfl⟩ ⟨Nat.le_of_ble_eq_true rfl, Nat.le_of_ble_eq_true rfl⟩ (Nat.le_of_ble_eq_true rfl) dX4_saidAt_9 ?_
  refine ww_topi (show bz _ = bz false by rw [wb_P (by omega)]; unfold hb; rw [nI_toInt (by omega), decide_eq_false (by omega)]) ?_
  refine ww_ifneB C (tgt := 18) dX4_saidAt_12 (by decide) (fun c => ?_) (fun c => ?_)
  · skip
    cases c
  · skip
    refine ww_bipush C (v := -4) dX4_saidAt_15 (by decide) ?_
    exact ww_ri C dX4_saidAt_17 rfl ⟨Nat.le_of_ble_eq_true rfl, Nat.le_of_ble_eq_true rfl⟩ rfl rfl
