theorem filN_lt {f h : Nat → Nat} {c i : Nat} (hi : i < c) : filN f h c i = f i := if_pos hi
theorem sumN_c {f h : Nat → Nat} : ∀ {n : Nat}, (∀ i, i < n → f i = h i) → sumN f n = sumN h n
  | 0, _ => rfl
  | n + 1, e => by show sumN f n + f n = sumN h n + h n; rw [sumN_c (fun i hi => e i (by omega)), e n (by omega)]
theorem cryN_c {p b v : Nat} {Lo Lp Be Bf : Nat → Nat} (h1 : ∀ i, i < p → Lo i = Lp i) (h2 : ∀ i, i < p → Be i = Bf i) (s : Nat) : cryN p Lo Be b v s = cryN p Lp Bf b v s := by
  unfold cryN
  rw [sumN_c (f := fun i => if tb s i = true then Lo i else 0) (h := fun i => if tb s i = true then Lp i else 0) (fun i hi => by rw [h1 i hi]), sumN_c (f := fun i => if tb s i = true then Be i else 0) (h := fun i => if tb s i = true then Bf i else 0) (fun i hi => by rw [h2 i hi])]
theorem cryN_e {p b v : Nat} {Lo Lp Be Bf : Nat → Nat} (h1 : ∀ i, i < p → Lo i = Lp i) (h2 : ∀ i, i < p → Be i = Bf i) : cryN p Lo Be b v = cryN p Lp Bf b v := funext (cryN_c h1 h2)
theorem savF_c {p : Nat} {Pa Pb cr : Nat → Nat} {l : Nat} (h : ∀ i, i < p → Pa i = Pb i) : savF p Pa cr l = savF p Pb cr l := by
  funext A s
  unfold savF
  rw [anyN_c (b := cbN A (cr s) Pa s l) (c := cbN A (cr s) Pb s l) (fun i hi => by unfold cbN; rw [h i hi])]
theorem folF_c {p : Nat} {Pa Pb cr : Nat → Nat} {l s : Nat} (h : ∀ i, i < p → Pa i = Pb i) : folF p Pa cr l s = folF p Pb cr l s := by
  funext A m
  unfold folF
  rw [anyN_c (b := nsB (fun e => A (s - e)) cr Pa s (s - m) l) (c := nsB (fun e => A (s - e)) cr Pb s (s - m) l) (fun i hi => by unfold nsB; rw [h i hi])]
theorem foN_c {p : Nat} {Pa Pb cr : Nat → Nat} {l s : Nat} (h : ∀ i, i < p → Pa i = Pb i) : foN p Pa cr l s = foN p Pb cr l s := by
  funext d
  unfold foN
  rw [folF_c h]
theorem nsP_c {A T Pa Pb : Nat → Nat} {s d l p : Nat} (h : ∀ i, i < p → Pa i = Pb i) : fstN (nsB A T Pa s d l) p = fstN (nsB A T Pb s d l) p := fstN_c (fun i hi => by unfold nsB; rw [h i hi])
theorem dnN_c {p : Nat} {Pa Pb cr : Nat → Nat} {l s : Nat} (h : ∀ i, i < p → Pa i = Pb i) : ∀ c, dnN p Pa cr l s c = dnN p Pb cr l s c
  | 0 => rfl
  | c + 1 => by
    have ih := dnN_c (cr := cr) (l := l) (s := s) h c
    unfold dnN
    rw [ih, foN_c h, nsP_c h]
theorem hiN_c {Ra Rb : Nat → Nat} {p s i : Nat} (h : ∀ i, i < p → Ra i = Rb i) (hi : i < p) : hiN Ra p s i = hiN Rb p s i := by
  unfold hiN
  have : ∀ n, n ≤ p → hgN (fun j => tb s j && decide (Ra i < Ra j)) n = hgN (fun j => tb s j && decide (Rb i < Rb j)) n := by
    intro n
    induction n with
    | zero => intro _; rfl
    | succ n ih =>
      intro hn
      unfold hgN
      rw [ih (by omega), h i hi, h n (by omega)]
  exact this p (Nat.le_refl p)
theorem ngB_c {b : Nat} {Lo Lp Hi Hj pc : Nat → Nat} {q x0 fe p : Nat} (h1 : ∀ i, i < p → Lo i = Lp i) (h2 : ∀ i, i < p → Hi i = Hj i) : fstN (ngB b Lo Hi pc q x0 fe) p = fstN (ngB b Lp Hj pc q x0 fe) p := fstN_c (fun i hi => by unfold ngB; rw [mbN_c (h2 i hi), h1 i hi])
theorem ocN_c {p b : Nat} {Lo Lp Hi Hj pc : Nat → Nat} {s fe : Nat} (h1 : ∀ i, i < p → Lo i = Lp i) (h2 : ∀ i, i < p → Hi i = Hj i) : ∀ c, ocN p b Lo Hi pc s fe c = ocN p b Lp Hj pc s fe c
  | 0 => rfl
  | c + 1 => by
    have ih := ocN_c (b := b) (pc := pc) (s := s) (fe := fe) h1 h2 c
    unfold ocN
    rw [ih, ngB_c h1 h2]
    cases e : fstN (ngB b Lp Hj pc (ocN p b Lp Hj pc s fe c).1 (ocN p b Lp Hj pc s fe c).2 fe) p with
    | none => rfl
    | some i => dsimp only; rw [h1 i (fstN_spec e).1]
/-- the i-th of a row that goes on while it isn't done and there is a next one -/
def sqN (fin : Nat → Bool) (pk : Nat → Option Nat) (i : Nat) : Int32 := if preN (fun j => !fin j && (pk j).isSome) (i + 1) = i + 1 then oI (pk i) else -4
theorem sq_in {fin : Nat → Bool} {pk : Nat → Option Nat} {i : Nat} {Or2 : Nat → Nat} (h : ∀ j, j ≤ i → pk j = some (Or2 j) ∧ fin j = false) : sqN fin pk i = nI (Or2 i) := by
  unfold sqN
  rw [if_pos (preN_eq (fun j hj => by rw [(h j (by omega)).1, (h j (by omega)).2]; rfl) (Or.inl rfl)), (h i (Nat.le_refl i)).1]
  rfl
theorem sq_out {fin : Nat → Bool} {pk : Nat → Option Nat} {i od : Nat} (hod : od ≤ i) (h : fin od = true ∨ pk od = none) : sqN fin pk i = -4 := by
  unfold sqN
  rw [if_neg]
  intro e
  have := preN_all (fun j => !fin j && (pk j).isSome) (i + 1) od (by omega)
  rcases h with h | h
  · rw [h] at this; cases this
  · rw [h, Bool.and_comm] at this; cases this
theorem c_everyone (g : Gx) (n : Nat) (w : Wd) {hi dr len pl kn p1 p2 : Nat} {t nm : Nat → Nat} {h h' : Hs} {a k1 k2 : Ms} (hC : CX w hi dr t len pl nm h h' a kn k1 k2 p1 p2) : CT g yX6_everyone cX6_everyone 1 (some .int) rm_X6_everyone n n w [.ref 0] (Rv (.int (nI (2 ^ h.2.2.2.1 - 1))) w) := by
  have hp8 : h.2.2.2.1 ≤ 8 := hC.2.2.2.2.2.1.2.1.2.2.2.2.1
  refine CT.start [some (.ref 0)] (by decide +kernel) rfl (Nat.le_of_ble_eq_true rfl) (fun x C hnm => ?_)
  refine ww_iconst C (v := nI 1) dX6_everyone_0 (by decide) ?_
  refine ww_aload0 C dX6_everyone_1 ?_
  refine ww_getf C fl_X6_29 hC.2.1 rfl dX6_everyone_2 ?_
  refine ww_getf C fl_X6_65 hC.2.2.2.2.2.1.1 rfl dX6_everyone_5 ?_
  refine ww_getf C fl_X6_92 hC.2.2.2.2.2.1.2.1.1 rfl dX6_everyone_8 ?_
  refine ww_shl1N C (by omega) dX6_everyone_11 ?_
  refine ww_iconst C (v := nI 1) dX6_everyone_12 (by decide) ?_
  refine ww_isubN C (Nat.two_pow_pos _) dX6_everyone_13 ?_
  exact ww_ri C dX6_everyone_14 rfl ⟨Nat.le_of_ble_eq_true rfl, Nat.le_of_ble_eq_true rfl⟩ rfl rfl
theorem c_isSet (g : Gx) (n : Nat) (w : Wd) {hi dr len pl kn p1 p2 : Nat} {t nm : Nat → Nat} {h h' : Hs} {a k1 k2 : Ms} (hC : CX w hi dr t len pl nm h h' a kn k1 k2 p1 p2) (s : Int32) : CT g yX6_isSet cX6_isSet 2 (some .boolean) rm_X6_isSet n n w [.ref 0, .int s] (Rv (.int (bz (stB h.2.2.2.1 s))) w) := by
  have hp8 : h.2.2.2.1 ≤ 8 := hC.2.2.2.2.2.1.2.1.2.2.2.2.1
  refine CT.start [some (.ref 0), some (.int s)] (by decide +kernel) rfl (Nat.le_of_ble_eq_true rfl) (fun x C hnm => ?_)
  refine ww_iload1 C dX6_isSet_0 ?_
  refine ww_iconst C (v := nI 1) dX6_isSet_1 (by decide) ?_
  refine ww_aload0 C dX6_isSet_2 ?_
  refine ww_cV0v C hC.2.1 rfl (c_everyone g n w hC) kV_X6_211 ⟨Nat.le_of_ble_eq_true rfl, Nat.le_of_ble_eq_true rfl⟩ ⟨rfl, rfl⟩ ⟨Nat.le_of_ble_eq_true rfl, Nat.le_of_ble_eq_true rfl⟩ (Nat.le_of_ble_eq_true rfl) dX6_isSet_3 ?_
  refine ww_cS3v C (c_within g n w _ _ _) kS_X6_73 ⟨Nat.le_of_ble_eq_true rfl, Nat.le_of_ble_eq_true rfl⟩ ⟨rfl, rfl⟩ ⟨Nat.le_of_ble_eq_true rfl, Nat.le_of_ble_eq_true rfl⟩ (Nat.le_of_ble_eq_true rfl) dX6_isSet_6 ?_
  exact ww_rz C dX6_isSet_9 rfl ⟨Nat.le_of_ble_eq_true rfl, Nat.le_of_ble_eq_true rfl⟩ (by rw [wb_S hp8]) rfl
def V_cry (h : Hs) (a : Ms) (s : Int32) : Int32 := if stB h.2.2.2.1 s = true then nI ((cryN h.2.2.2.1 (longN a.1 a.2.1) (beatN a.1 a.2.1 a.2.2.1 h.2.2.2.2.2.2.2.2.1) h.2.2.2.2.2.2.2.2.2.1 h.2.2.2.2.2.2.2.2.2.2.1) s.toNatClampNeg) else -1
def B_warn (h : Hs) (a : Ms) (l : Nat) : Nat := bsN (cov (savF h.2.2.2.1 h.2.2.2.2.1 (cryN h.2.2.2.1 (longN a.1 a.2.1) (beatN a.1 a.2.1 a.2.2.1 h.2.2.2.2.2.2.2.2.1) h.2.2.2.2.2.2.2.2.2.1 h.2.2.2.2.2.2.2.2.2.2.1) l)) (2 ^ h.2.2.2.1)
def V_warn (h : Hs) (a : Ms) (l what : Int32) : Int32 := if wb (nI 0) (nI 999) l = true ∧ wb (nI 0) (nI 1) what = true then (if what = nI 0 then nI (bcN (B_warn h a l.toNatClampNeg)) else nI (B_warn h a l.toNatClampNeg)) else -1
def V_called (h : Hs) (a : Ms) (l i : Int32) : Int32 := if wb (nI 0) (nI 999) l = true ∧ wb (nI 0) (nI 7) i = true then sqN (fun j => decide (dnN h.2.2.2.1 h.2.2.2.2.1 (cryN h.2.2.2.1 (longN a.1 a.2.1) (beatN a.1 a.2.1 a.2.2.1 h.2.2.2.2.2.2.2.2.1) h.2.2.2.2.2.2.2.2.2.1 h.2.2.2.2.2.2.2.2.2.2.1) l.toNatClampNeg (B_warn h a l.toNatClampNeg) j = B_warn h a l.toNatClampNeg)) (fun j => fstN (nsB (foN h.2.2.2.1 h.2.2.2.2.1 (cryN h.2.2.2.1 (longN a.1 a.2.1) (beatN a.1 a.2.1 a.2.2.1 h.2.2.2.2.2.2.2.2.1) h.2.2.2.2.2.2.2.2.2.1 h.2.2.2.2.2.2.2.2.2.2.1) l.toNatClampNeg (B_warn h a l.toNatClampNeg)) (cryN h.2.2.2.1 (longN a.1 a.2.1) (beatN a.1 a.2.1 a.2.2.1 h.2.2.2.2.2.2.2.2.1) h.2.2.2.2.2.2.2.2.2.1 h.2.2.2.2.2.2.2.2.2.2.1) h.2.2.2.2.1 (B_warn h a l.toNatClampNeg) (dnN h.2.2.2.1 h.2.2.2.2.1 (cryN h.2.2.2.1 (longN a.1 a.2.1) (beatN a.1 a.2.1 a.2.2.1 h.2.2.2.2.2.2.2.2.1) h.2.2.2.2.2.2.2.2.2.1 h.2.2.2.2.2.2.2.2.2.2.1) l.toNatClampNeg (B_warn h a l.toNatClampNeg) j) l.toNatClampNeg) h.2.2.2.1) i.toNatClampNeg else -1
theorem d_cry (g : Gx) (n : Nat) (w : Wd) {t : Nat → Nat} {len : Nat} {h : Hs} {a : Ms} {kn : Nat} {k1 k2 : Ms} (hR : CR w t len h a kn k1 k2) (s : Int32) (hb1 : 1 ≤ h.2.2.2.2.2.2.2.2.2.1) : CT g yX6_cry cX6_cry 2 (some .int) rm_X6_cry n n w [.ref 0, .int s] (Rq (.int (V_cry h a s)) (fun w1 => CR w1 t len h a kn k1 k2 ∧ fr w w1 0 59)) := by
  obtain ⟨hi, dr, pl, nm, h', p1, p2, hC, hq1, hq2⟩ := id hR
  have hp8 : h.2.2.2.1 ≤ 8 := hC.2.2.2.2.2.1.2.1.2.2.2.2.1
  have hhd := hC.1
  have hlen := hC.2.2.1.2.2.2.1
  obtain ⟨g1, g2, g3, g4, g5, g6, g7, g8, g9, g10, g11, g12, g13, hG⟩ := hC.2.2.2.2.2.2.2.2.1
  have h256 := p256 hp8
  refine CT.start [some (.ref 0), some (.int s)] (by decide +kernel) rfl (Nat.le_of_ble_eq_true rfl) (fun x C hnm => ?_)
  refine ww_aload0 C dX6_cry_0 ?_
  refine ww_iload1 C dX6_cry_1 ?_
  refine ww_cV1v C hC.2.1 rfl (c_isSet g n w hC _) kV_X6_138 ⟨Nat.le_of_ble_eq_true rfl, Nat.le_of_ble_eq_true rfl⟩ ⟨rfl, rfl⟩ ⟨Nat.le_of_ble_eq_true rfl, Nat.le_of_ble_eq_true rfl⟩ (Nat.le_of_ble_eq_true rfl) dX6_cry_2 ?_
  refine ww_ifneB C (tgt := 10) dX6_cry_5 (by decide) (fun c5 => ?_) (fun c5 => ?_)
  · skip
    obtain ⟨q, hq0, hqm, rfl⟩ := stB_of c5
    have hcq : (nI q).toNatClampNeg = q := cl_nI (by omega)
    refine ww_aload0 C dX6_cry_10 ?_
    refine ww_getf C fl_X6_46 hC.2.1 rfl dX6_cry_11 ?_
    refine ww_aload0 C dX6_cry_14 ?_
    refine ww_getf C fl_X6_19 hC.2.1 rfl dX6_cry_15 ?_
    refine ww_aload0 C dX6_cry_18 ?_
    refine ww_getf C fl_X6_29 hC.2.1 rfl dX6_cry_19 ?_
    refine ww_getf C fl_X6_65 hC.2.2.2.2.2.1.1 rfl dX6_cry_22 ?_
    refine ww_cV20q C hG.1 rfl (c_learn g n w hG hC.2.2.2.1 hC.2.2.2.2.2.1.2.1 (by omega) (by omega)) kV_X6_141 ⟨Nat.le_of_ble_eq_true rfl, Nat.le_of_ble_eq_true rfl⟩ ⟨rfl, rfl⟩ ⟨Nat.le_of_ble_eq_true rfl, Nat.le_of_ble_eq_true rfl⟩ (Nat.le_of_ble_eq_true rfl) dX6_cry_25 (fun w1 hw1 => ?_)
    obtain ⟨hG, hfl⟩ := hw1
    have hC := hC.g ⟨_, _, _, _, _, _, _, _, _, _, _, _, _, hG⟩ hfl
    refine ww_aload0 C dX6_cry_28 ?_
    refine ww_getf C fl_X6_46 hC.2.1 rfl dX6_cry_29 ?_
    refine ww_iload1 C dX6_cry_32 ?_
    refine ww_cV1v C hG.1 rfl (c_beatsToCall g n w1 hG hb1 (by omega)) kV_X6_145 ⟨Nat.le_of_ble_eq_true rfl, Nat.le_of_ble_eq_true rfl⟩ ⟨rfl, rfl⟩ ⟨Nat.le_of_ble_eq_true rfl, Nat.le_of_ble_eq_true rfl⟩ (Nat.le_of_ble_eq_true rfl) dX6_cry_33 ?_
    exact ww_riq C dX6_cry_36 rfl ⟨Nat.le_of_ble_eq_true rfl, Nat.le_of_ble_eq_true rfl⟩ (by unfold V_cry; rw [if_pos c5, hcq, cryN_c (fun i hi => filN_lt hi) (fun i hi => filN_lt hi)]) ⟨⟨_, _, _, _, _, _, _, hC, hq1, hq2⟩, hfl.wide (by omega) (by omega)⟩
  · skip
    refine ww_iconst C (v := -1) dX6_cry_8 (by decide) ?_
    exact ww_riq C dX6_cry_9 rfl ⟨Nat.le_of_ble_eq_true rfl, Nat.le_of_ble_eq_true rfl⟩ (by unfold V_cry; rw [if_neg (by rw [c5]; decide)]) ⟨hR, fr.rf⟩
theorem d_warn (g : Gx) (n : Nat) (w : Wd) {t : Nat → Nat} {len : Nat} {h : Hs} {a : Ms} {kn : Nat} {k1 k2 : Ms} (hR : CR w t len h a kn k1 k2) (l what : Int32) (hb1 : 1 ≤ h.2.2.2.2.2.2.2.2.2.1) : CT g yX6_warn cX6_warn 4 (some .int) rm_X6_warn n n w [.ref 0, .int l, .int what] (Rq (.int (V_warn h a l what)) (fun w1 => CR w1 t len h a kn k1 k2 ∧ fr w w1 0 59)) := by
  obtain ⟨hi, dr, pl, nm, h', p1, p2, hC, hq1, hq2⟩ := id hR
  have hp8 : h.2.2.2.1 ≤ 8 := hC.2.2.2.2.2.1.2.1.2.2.2.2.1
  have hhd := hC.1
  have hlen := hC.2.2.1.2.2.2.1
  obtain ⟨g1, g2, g3, g4, g5, g6, g7, g8, g9, g10, g11, g12, g13, hG⟩ := hC.2.2.2.2.2.2.2.2.1
  have h256 := p256 hp8
  refine CT.start [some (.ref 0), some (.int l), some (.int what), none] (by decide +kernel) rfl (Nat.le_of_ble_eq_true rfl) (fun x C hnm => ?_)
  refine ww_iload1 C dX6_warn_0 ?_
  refine ww_iconst C (v := nI 0) dX6_warn_1 (by decide) ?_
  refine ww_sipush C (v := nI 999) dX6_warn_2 (by decide) ?_
  refine ww_cS3v C (c_within g n w _ _ _) kS_X6_73 ⟨Nat.le_of_ble_eq_true rfl, Nat.le_of_ble_eq_true rfl⟩ ⟨rfl, rfl⟩ ⟨Nat.le_of_ble_eq_true rfl, Nat.le_of_ble_eq_true rfl⟩ (Nat.le_of_ble_eq_true rfl) dX6_warn_5 ?_
  refine ww_ifeqB C (tgt := 20) dX6_warn_8 (by decide) (fun c8 => ?_) (fun c8 => ?_)
  · skip
    refine ww_iconst C (v := -1) dX6_warn_20 (by decide) ?_
    exact ww_riq C dX6_warn_21 rfl ⟨Nat.le_of_ble_eq_true rfl, Nat.le_of_ble_eq_true rfl⟩ (by unfold V_warn; rw [if_neg (fun e => by rw [c8] at e; cases e.1)]) ⟨hR, fr.rf⟩
  · skip
    obtain ⟨y, hy0, hym, rfl⟩ := wb_of (by decide) (by decide) c8
    have hcy : (nI y).toNatClampNeg = y := cl_nI (by omega)
    refine ww_iload2 C dX6_warn_11 ?_
    refine ww_iconst C (v := nI 0) dX6_warn_12 (by decide) ?_
    refine ww_iconst C (v := nI 1) dX6_warn_13 (by decide) ?_
    refine ww_cS3v C (c_within g n w _ _ _) kS_X6_73 ⟨Nat.le_of_ble_eq_true rfl, Nat.le_of_ble_eq_true rfl⟩ ⟨rfl, rfl⟩ ⟨Nat.le_of_ble_eq_true rfl, Nat.le_of_ble_eq_true rfl⟩ (Nat.le_of_ble_eq_true rfl) dX6_warn_14 ?_
    refine ww_ifneB C (tgt := 22) dX6_warn_17 (by decide) (fun c17 => ?_) (fun c17 => ?_)
    · skip
      obtain ⟨q, hq0, hqm, rfl⟩ := wb_of (by decide) (by decide) c17
      have hcq : (nI q).toNatClampNeg = q := cl_nI (by omega)
      refine ww_aload0 C dX6_warn_22 ?_
      refine ww_getf C fl_X6_46 hC.2.1 rfl dX6_warn_23 ?_
      refine ww_aload0 C dX6_warn_26 ?_
      refine ww_getf C fl_X6_19 hC.2.1 rfl dX6_warn_27 ?_
      refine ww_aload0 C dX6_warn_30 ?_
      refine ww_getf C fl_X6_29 hC.2.1 rfl dX6_warn_31 ?_
      refine ww_getf C fl_X6_65 hC.2.2.2.2.2.1.1 rfl dX6_warn_34 ?_
      refine ww_cV20q C hG.1 rfl (c_learn g n w hG hC.2.2.2.1 hC.2.2.2.2.2.1.2.1 (by omega) (by omega)) kV_X6_141 ⟨Nat.le_of_ble_eq_true rfl, Nat.le_of_ble_eq_true rfl⟩ ⟨rfl, rfl⟩ ⟨Nat.le_of_ble_eq_true rfl, Nat.le_of_ble_eq_true rfl⟩ (Nat.le_of_ble_eq_true rfl) dX6_warn_37 (fun w1 hw1 => ?_)
      obtain ⟨hG, hfl⟩ := hw1
      have hC := hC.g ⟨_, _, _, _, _, _, _, _, _, _, _, _, _, hG⟩ hfl
      refine ww_aload0 C dX6_warn_40 ?_
      refine ww_getf C fl_X6_46 hC.2.1 rfl dX6_warn_41 ?_
      refine ww_iload1 C dX6_warn_44 ?_
      refine ww_cV1vq C hG.1 rfl (c_mostSaved g n w1 hG (l := y) hb1 (by omega)) kV_X6_148 ⟨Nat.le_of_ble_eq_true rfl, Nat.le_of_ble_eq_true rfl⟩ ⟨rfl, rfl⟩ ⟨Nat.le_of_ble_eq_true rfl, Nat.le_of_ble_eq_true rfl⟩ (Nat.le_of_ble_eq_true rfl) dX6_warn_45 (fun w2 hw2 => ?_)
      obtain ⟨Ti2, Wk2, hG, hTi, hf2⟩ := hw2
      have hC := hC.g ⟨_, _, _, _, _, _, _, _, _, _, _, _, _, hG⟩ hf2
      have hff := hfl.tr hf2
      have hBW : bsN (cov (savF h.2.2.2.1 (filN h.2.2.2.2.1 g6 h.2.2.2.1) (cryN h.2.2.2.1 (filN (longN a.1 a.2.1) g4 h.2.2.2.1) (filN (beatN a.1 a.2.1 a.2.2.1 h.2.2.2.2.2.2.2.2.1) g5 h.2.2.2.1) h.2.2.2.2.2.2.2.2.2.1 h.2.2.2.2.2.2.2.2.2.2.1) y)) (2 ^ h.2.2.2.1) = B_warn h a y := by unfold B_warn; rw [cryN_e (fun i hi => filN_lt hi) (fun i hi => filN_lt hi), savF_c (fun i hi => filN_lt hi)]
      rw [hBW]
      have hBl : B_warn h a y < 2 ^ h.2.2.2.1 := bsN_lt _ (Nat.two_pow_pos _)
      refine ww_istore3 C dX6_warn_48 (by decide) rfl ?_
      refine ww_iload2 C dX6_warn_49 ?_
      refine ww_ifneN C (by omega) (tgt := 60) dX6_warn_50 (by decide) (fun c50 => ?_) (fun c50 => ?_)
      · skip
        refine ww_iload3 C dX6_warn_60 ?_
        exact ww_riq C dX6_warn_61 rfl ⟨Nat.le_of_ble_eq_true rfl, Nat.le_of_ble_eq_true rfl⟩ (by unfold V_warn; rw [if_pos ⟨c8, c17⟩, hcy, if_neg (fun e => c50 ((nI_eq (by omega) (by decide)).mp e))]) ⟨⟨_, _, _, _, _, _, _, hC, hq1, hq2⟩, hff.wide (by omega) (by omega)⟩
      · skip
        refine ww_iload3 C dX6_warn_53 ?_
        refine ww_cS1v C (c_bitCount g n w2 (by omega)) kS_X6_151 ⟨Nat.le_of_ble_eq_true rfl, Nat.le_of_ble_eq_true rfl⟩ ⟨rfl, rfl⟩ ⟨Nat.le_of_ble_eq_true rfl, Nat.le_of_ble_eq_true rfl⟩ (Nat.le_of_ble_eq_true rfl) dX6_warn_54 ?_
        refine ww_goto C (tgt := 61) dX6_warn_57 (by decide) ?_
        exact ww_riq C dX6_warn_61 rfl ⟨Nat.le_of_ble_eq_true rfl, Nat.le_of_ble_eq_true rfl⟩ (by unfold V_warn; rw [if_pos ⟨c8, c17⟩, hcy, if_pos (by rw [c50])]) ⟨⟨_, _, _, _, _, _, _, hC, hq1, hq2⟩, hff.wide (by omega) (by omega)⟩
    · skip
      refine ww_iconst C (v := -1) dX6_warn_20 (by decide) ?_
      exact ww_riq C dX6_warn_21 rfl ⟨Nat.le_of_ble_eq_true rfl, Nat.le_of_ble_eq_true rfl⟩ (by unfold V_warn; rw [if_neg (fun e => by rw [c17] at e; cases e.2)]) ⟨hR, fr.rf⟩
theorem cal_eq (h : Hs) (a : Ms) (y q : Nat) {Or2 Lo Be Pa : Nat → Nat} {od2 : Nat}
    (hOr : ∀ j, j < od2 → fstN (nsB (foN h.2.2.2.1 (filN h.2.2.2.2.1 Pa h.2.2.2.1) (cryN h.2.2.2.1 (filN (longN a.1 a.2.1) Lo h.2.2.2.1) (filN (beatN a.1 a.2.1 a.2.2.1 h.2.2.2.2.2.2.2.2.1) Be h.2.2.2.1) h.2.2.2.2.2.2.2.2.2.1 h.2.2.2.2.2.2.2.2.2.2.1) y (B_warn h a y)) (cryN h.2.2.2.1 (filN (longN a.1 a.2.1) Lo h.2.2.2.1) (filN (beatN a.1 a.2.1 a.2.2.1 h.2.2.2.2.2.2.2.2.1) Be h.2.2.2.1) h.2.2.2.2.2.2.2.2.2.1 h.2.2.2.2.2.2.2.2.2.2.1) (filN h.2.2.2.2.1 Pa h.2.2.2.1) (B_warn h a y) (dnN h.2.2.2.1 (filN h.2.2.2.2.1 Pa h.2.2.2.1) (cryN h.2.2.2.1 (filN (longN a.1 a.2.1) Lo h.2.2.2.1) (filN (beatN a.1 a.2.1 a.2.2.1 h.2.2.2.2.2.2.2.2.1) Be h.2.2.2.1) h.2.2.2.2.2.2.2.2.2.1 h.2.2.2.2.2.2.2.2.2.2.1) y (B_warn h a y) j) y) h.2.2.2.1 = some (Or2 j) ∧ ¬ dnN h.2.2.2.1 (filN h.2.2.2.2.1 Pa h.2.2.2.1) (cryN h.2.2.2.1 (filN (longN a.1 a.2.1) Lo h.2.2.2.1) (filN (beatN a.1 a.2.1 a.2.2.1 h.2.2.2.2.2.2.2.2.1) Be h.2.2.2.1) h.2.2.2.2.2.2.2.2.2.1 h.2.2.2.2.2.2.2.2.2.2.1) y (B_warn h a y) j = B_warn h a y)
    (hEx : dnN h.2.2.2.1 (filN h.2.2.2.2.1 Pa h.2.2.2.1) (cryN h.2.2.2.1 (filN (longN a.1 a.2.1) Lo h.2.2.2.1) (filN (beatN a.1 a.2.1 a.2.2.1 h.2.2.2.2.2.2.2.2.1) Be h.2.2.2.1) h.2.2.2.2.2.2.2.2.2.1 h.2.2.2.2.2.2.2.2.2.2.1) y (B_warn h a y) od2 = B_warn h a y ∨ fstN (nsB (foN h.2.2.2.1 (filN h.2.2.2.2.1 Pa h.2.2.2.1) (cryN h.2.2.2.1 (filN (longN a.1 a.2.1) Lo h.2.2.2.1) (filN (beatN a.1 a.2.1 a.2.2.1 h.2.2.2.2.2.2.2.2.1) Be h.2.2.2.1) h.2.2.2.2.2.2.2.2.2.1 h.2.2.2.2.2.2.2.2.2.2.1) y (B_warn h a y)) (cryN h.2.2.2.1 (filN (longN a.1 a.2.1) Lo h.2.2.2.1) (filN (beatN a.1 a.2.1 a.2.2.1 h.2.2.2.2.2.2.2.2.1) Be h.2.2.2.1) h.2.2.2.2.2.2.2.2.2.1 h.2.2.2.2.2.2.2.2.2.2.1) (filN h.2.2.2.2.1 Pa h.2.2.2.1) (B_warn h a y) (dnN h.2.2.2.1 (filN h.2.2.2.2.1 Pa h.2.2.2.1) (cryN h.2.2.2.1 (filN (longN a.1 a.2.1) Lo h.2.2.2.1) (filN (beatN a.1 a.2.1 a.2.2.1 h.2.2.2.2.2.2.2.2.1) Be h.2.2.2.1) h.2.2.2.2.2.2.2.2.2.1 h.2.2.2.2.2.2.2.2.2.2.1) y (B_warn h a y) od2) y) h.2.2.2.1 = none ∨ od2 = 8)
    (c8 : wb (nI 0) (nI 999) (nI y) = true) (c18 : wb (nI 0) (nI 7) (nI q) = true) (hcy : (nI y).toNatClampNeg = y) (hcq : (nI q).toNatClampNeg = q) (hq : q ≤ 7) : (if q < od2 then nI (Or2 q) else -4) = V_called h a (nI y) (nI q) := by
  unfold V_called
  have hcc := And.intro c8 c18
  rw [if_pos hcc, hcy, hcq]
  have e1 := cryN_e (p := h.2.2.2.1) (b := h.2.2.2.2.2.2.2.2.2.1) (v := h.2.2.2.2.2.2.2.2.2.2.1) (Lo := filN (longN a.1 a.2.1) Lo h.2.2.2.1) (Lp := (longN a.1 a.2.1)) (Be := filN (beatN a.1 a.2.1 a.2.2.1 h.2.2.2.2.2.2.2.2.1) Be h.2.2.2.1) (Bf := (beatN a.1 a.2.1 a.2.2.1 h.2.2.2.2.2.2.2.2.1)) (fun i hi => filN_lt hi) (fun i hi => filN_lt hi)
  have hPa : ∀ i, i < h.2.2.2.1 → filN h.2.2.2.2.1 Pa h.2.2.2.1 i = h.2.2.2.2.1 i := fun i hi => filN_lt hi
  rw [e1, foN_c hPa] at hOr hEx
  by_cases c : q < od2
  · rw [if_pos c]
    exact (sq_in (fun j hj => by
      have := hOr j (by omega)
      rw [dnN_c hPa, nsP_c hPa] at this
      exact ⟨this.1, decide_eq_false this.2⟩)).symm
  · rw [if_neg c]
    rcases hEx with e | e | e
    · exact (sq_out (od := od2) (by omega) (Or.inl (by rw [dnN_c hPa] at e; exact decide_eq_true e))).symm
    · exact (sq_out (od := od2) (by omega) (Or.inr (by rw [dnN_c hPa, nsP_c hPa] at e; exact e))).symm
    · omega
theorem d_called (g : Gx) (n : Nat) (w : Wd) {t : Nat → Nat} {len : Nat} {h : Hs} {a : Ms} {kn : Nat} {k1 k2 : Ms} (hR : CR w t len h a kn k1 k2) (l i : Int32) (hb1 : 1 ≤ h.2.2.2.2.2.2.2.2.2.1) : CT g yX6_called cX6_called 3 (some .int) rm_X6_called n n w [.ref 0, .int l, .int i] (Rq (.int (V_called h a l i)) (fun w1 => CR w1 t len h a kn k1 k2 ∧ fr w w1 0 59)) := by
  obtain ⟨hi, dr, pl, nm, h', p1, p2, hC, hq1, hq2⟩ := id hR
  have hp8 : h.2.2.2.1 ≤ 8 := hC.2.2.2.2.2.1.2.1.2.2.2.2.1
  have hhd := hC.1
  have hlen := hC.2.2.1.2.2.2.1
  obtain ⟨g1, g2, g3, g4, g5, g6, g7, g8, g9, g10, g11, g12, g13, hG⟩ := hC.2.2.2.2.2.2.2.2.1
  have h256 := p256 hp8
  refine CT.start [some (.ref 0), some (.int l), some (.int i)] (by decide +kernel) rfl (Nat.le_of_ble_eq_true rfl) (fun x C hnm => ?_)
  refine ww_iload1 C dX6_called_0 ?_
  refine ww_iconst C (v := nI 0) dX6_called_1 (by decide) ?_
  refine ww_sipush C (v := nI 999) dX6_called_2 (by decide) ?_
  refine ww_cS3v C (c_within g n w _ _ _) kS_X6_73 ⟨Nat.le_of_ble_eq_true rfl, Nat.le_of_ble_eq_true rfl⟩ ⟨rfl, rfl⟩ ⟨Nat.le_of_ble_eq_true rfl, Nat.le_of_ble_eq_true rfl⟩ (Nat.le_of_ble_eq_true rfl) dX6_called_5 ?_
  refine ww_ifeqB C (tgt := 21) dX6_called_8 (by decide) (fun c8 => ?_) (fun c8 => ?_)
  · skip
    refine ww_iconst C (v := -1) dX6_called_21 (by decide) ?_
    exact ww_riq C dX6_called_22 rfl ⟨Nat.le_of_ble_eq_true rfl, Nat.le_of_ble_eq_true rfl⟩ (by unfold V_called; rw [if_neg (fun e => by rw [c8] at e; cases e.1)]) ⟨hR, fr.rf⟩
  · skip
    obtain ⟨y, hy0, hym, rfl⟩ := wb_of (by decide) (by decide) c8
    have hcy : (nI y).toNatClampNeg = y := cl_nI (by omega)
    refine ww_iload2 C dX6_called_11 ?_
    refine ww_iconst C (v := nI 0) dX6_called_12 (by decide) ?_
    refine ww_bipush C (v := nI 7) dX6_called_13 (by decide) ?_
    refine ww_cS3v C (c_within g n w _ _ _) kS_X6_73 ⟨Nat.le_of_ble_eq_true rfl, Nat.le_of_ble_eq_true rfl⟩ ⟨rfl, rfl⟩ ⟨Nat.le_of_ble_eq_true rfl, Nat.le_of_ble_eq_true rfl⟩ (Nat.le_of_ble_eq_true rfl) dX6_called_15 ?_
    refine ww_ifneB C (tgt := 23) dX6_called_18 (by decide) (fun c18 => ?_) (fun c18 => ?_)
    · skip
      obtain ⟨q, hq0, hqm, rfl⟩ := wb_of (by decide) (by decide) c18
      have hcq : (nI q).toNatClampNeg = q := cl_nI (by omega)
      refine ww_aload0 C dX6_called_23 ?_
      refine ww_getf C fl_X6_46 hC.2.1 rfl dX6_called_24 ?_
      refine ww_aload0 C dX6_called_27 ?_
      refine ww_getf C fl_X6_19 hC.2.1 rfl dX6_called_28 ?_
      refine ww_aload0 C dX6_called_31 ?_
      refine ww_getf C fl_X6_29 hC.2.1 rfl dX6_called_32 ?_
      refine ww_getf C fl_X6_65 hC.2.2.2.2.2.1.1 rfl dX6_called_35 ?_
      refine ww_cV20q C hG.1 rfl (c_learn g n w hG hC.2.2.2.1 hC.2.2.2.2.2.1.2.1 (by omega) (by omega)) kV_X6_141 ⟨Nat.le_of_ble_eq_true rfl, Nat.le_of_ble_eq_true rfl⟩ ⟨rfl, rfl⟩ ⟨Nat.le_of_ble_eq_true rfl, Nat.le_of_ble_eq_true rfl⟩ (Nat.le_of_ble_eq_true rfl) dX6_called_38 (fun w1 hw1 => ?_)
      obtain ⟨hG, hfl⟩ := hw1
      have hC := hC.g ⟨_, _, _, _, _, _, _, _, _, _, _, _, _, hG⟩ hfl
      refine ww_aload0 C dX6_called_41 ?_
      refine ww_getf C fl_X6_46 hC.2.1 rfl dX6_called_42 ?_
      refine ww_aload0 C dX6_called_45 ?_
      refine ww_getf C fl_X6_46 hC.2.1 rfl dX6_called_46 ?_
      refine ww_iload1 C dX6_called_49 ?_
      refine ww_cV1vq C hG.1 rfl (c_mostSaved g n w1 hG (l := y) hb1 (by omega)) kV_X6_148 ⟨Nat.le_of_ble_eq_true rfl, Nat.le_of_ble_eq_true rfl⟩ ⟨rfl, rfl⟩ ⟨Nat.le_of_ble_eq_true rfl, Nat.le_of_ble_eq_true rfl⟩ (Nat.le_of_ble_eq_true rfl) dX6_called_50 (fun w2 hw2 => ?_)
      obtain ⟨Ti2, Wk2, hG, hTi, hf2⟩ := hw2
      have hC := hC.g ⟨_, _, _, _, _, _, _, _, _, _, _, _, _, hG⟩ hf2
      have hff := hfl.tr hf2
      have hBW : bsN (cov (savF h.2.2.2.1 (filN h.2.2.2.2.1 g6 h.2.2.2.1) (cryN h.2.2.2.1 (filN (longN a.1 a.2.1) g4 h.2.2.2.1) (filN (beatN a.1 a.2.1 a.2.2.1 h.2.2.2.2.2.2.2.2.1) g5 h.2.2.2.1) h.2.2.2.2.2.2.2.2.2.1 h.2.2.2.2.2.2.2.2.2.2.1) y)) (2 ^ h.2.2.2.1) = B_warn h a y := by unfold B_warn; rw [cryN_e (fun i hi => filN_lt hi) (fun i hi => filN_lt hi), savF_c (fun i hi => filN_lt hi)]
      rw [hBW]
      have hBl : B_warn h a y < 2 ^ h.2.2.2.1 := bsN_lt _ (Nat.two_pow_pos _)
      refine ww_iload1 C dX6_called_53 ?_
      refine ww_cV20q C hG.1 rfl (c_orderWarning g n w2 hG (l := y) (by omega) hBl (by omega) hTi) kV_X6_156 ⟨Nat.le_of_ble_eq_true rfl, Nat.le_of_ble_eq_true rfl⟩ ⟨rfl, rfl⟩ ⟨Nat.le_of_ble_eq_true rfl, Nat.le_of_ble_eq_true rfl⟩ (Nat.le_of_ble_eq_true rfl) dX6_called_54 (fun w3 hw3 => ?_)
      obtain ⟨Wk3, Or2, od2, hG, hOr, hEx, hf3⟩ := hw3
      have hC := hC.g ⟨_, _, _, _, _, _, _, _, _, _, _, _, _, hG⟩ hf3
      refine ww_aload0 C dX6_called_57 ?_
      refine ww_getf C fl_X6_46 hC.2.1 rfl dX6_called_58 ?_
      refine ww_iload2 C dX6_called_61 ?_
      refine ww_cV1v C hG.1 rfl (c_inOrder g n w3 hG (i := q) (by omega)) kV_X6_160 ⟨Nat.le_of_ble_eq_true rfl, Nat.le_of_ble_eq_true rfl⟩ ⟨rfl, rfl⟩ ⟨Nat.le_of_ble_eq_true rfl, Nat.le_of_ble_eq_true rfl⟩ (Nat.le_of_ble_eq_true rfl) dX6_called_62 ?_
      exact ww_riq C dX6_called_65 rfl ⟨Nat.le_of_ble_eq_true rfl, Nat.le_of_ble_eq_true rfl⟩ (cal_eq h a y q hOr hEx c8 c18 hcy hcq hqm) ⟨⟨_, _, _, _, _, _, _, hC, hq1, hq2⟩, (hff.tr hf3).wide (by omega) (by omega)⟩
    · skip
      refine ww_iconst C (v := -1) dX6_called_21 (by decide) ?_
      exact ww_riq C dX6_called_22 rfl ⟨Nat.le_of_ble_eq_true rfl, Nat.le_of_ble_eq_true rfl⟩ (by unfold V_called; rw [if_neg (fun e => by rw [c18] at e; cases e.2)]) ⟨hR, fr.rf⟩
