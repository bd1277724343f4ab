theorem c_isOfR (g : Gx) (n : Nat) (w : Wd) (i : Int32) {s : Nat} (hs : s < 2147483648) : CT g yX6_isOf cX6_isOf 2 (some .boolean) rm_X6_isOf n n w [.int i, .int (nI s)] (Rv (.int (bz (hb 8 i && tb s i.toNatClampNeg))) w) := by
  refine CT.start [some (.int i), some (.int (nI s))] (by decide +kernel) rfl (Nat.le_of_ble_eq_true rfl) (fun x C hnm => ?_)
  refine ww_iload0 C dX6_isOf_0 ?_
  refine ww_iconst C (v := nI 0) dX6_isOf_1 (by decide) ?_
  refine ww_bipush C (v := nI 7) dX6_isOf_2 (by decide) ?_
  refine ww_cS3v C (c_within g n w _ _ _) kS_X6_73 ⟨Nat.le_of_ble_eq_true rfl, Nat.le_of_ble_eq_true rfl⟩ ⟨rfl, rfl⟩ ⟨Nat.le_of_ble_eq_true rfl, Nat.le_of_ble_eq_true rfl⟩ (Nat.le_of_ble_eq_true rfl) dX6_isOf_4 ?_
  refine ww_topi (show bz (wb (nI 0) (nI 7) i) = bz (hb 8 i) by rw [show (nI 7) = nI 7 from rfl, wb_R (p := 7) (by decide)]) ?_
  refine ww_ifeqB C (tgt := 22) dX6_isOf_7 (by decide) (fun c7 => ?_) (fun c7 => ?_)
  · skip
    refine ww_iconst C (v := nI 0) dX6_isOf_22 (by decide) ?_
    exact ww_rz C dX6_isOf_23 rfl ⟨Nat.le_of_ble_eq_true rfl, Nat.le_of_ble_eq_true rfl⟩ (by rw [c7]; rfl) rfl
  · skip
    obtain ⟨j, hj, rfl⟩ := hb_of c7
    have hcj : (nI j).toNatClampNeg = j := cl_nI (by omega)
    refine ww_iload1 C dX6_isOf_10 ?_
    refine ww_iconst C (v := nI 1) dX6_isOf_11 (by decide) ?_
    refine ww_iload0 C dX6_isOf_12 ?_
    refine ww_shl1N C (by omega) dX6_isOf_13 ?_
    refine ww_iandN C dX6_isOf_14 ?_
    refine ww_ifeqN C (tb_and hs) (tgt := 22) dX6_isOf_15 (by decide) (fun c15 => ?_) (fun c15 => ?_)
    · skip
      refine ww_iconst C (v := nI 0) dX6_isOf_22 (by decide) ?_
      exact ww_rz C dX6_isOf_23 rfl ⟨Nat.le_of_ble_eq_true rfl, Nat.le_of_ble_eq_true rfl⟩ (by rw [c7, hcj, tb_0 c15]; rfl) rfl
    · skip
      refine ww_iconst C (v := nI 1) dX6_isOf_18 (by decide) ?_
      refine ww_goto C (tgt := 23) dX6_isOf_19 (by decide) ?_
      exact ww_rz C dX6_isOf_23 rfl ⟨Nat.le_of_ble_eq_true rfl, Nat.le_of_ble_eq_true rfl⟩ (by rw [c7, hcj, tb_1 c15]; rfl) rfl
theorem tb_lt {s p j : Nat} (h : tb s j = true) (hs : s < 2 ^ p) : j < p := by
  rcases Nat.lt_or_ge j p with c | c
  · exact c
  · have : s.testBit j = false := Nat.testBit_lt_two_pow (Nat.lt_of_lt_of_le hs (Nat.pow_le_pow_right (by decide) c))
    have h : s.testBit j = true := h
    rw [this] at h
    cases h
def ofB (s : Nat) (i : Int32) : Bool := hb 8 i && tb s i.toNatClampNeg
theorem ofB_of {s p : Nat} {i : Int32} (h : ofB s i = true) (hs : s < 2 ^ p) (hp : p ≤ 8) : ∃ j, j < p ∧ tb s j = true ∧ i = nI j ∧ (nI j).toNatClampNeg = j := by
  unfold ofB at h
  rw [Bool.and_eq_true] at h
  obtain ⟨j, h1, rfl⟩ := hb_of h.1
  have hc : (nI j).toNatClampNeg = j := cl_nI (by omega)
  rw [hc] at h
  exact ⟨j, tb_lt h.2 hs, h.2, rfl, hc⟩
def V_short (h : Hs) (a : Ms) (i s : Int32) : Int32 := if stB h.2.2.2.1 s = true ∧ ofB s.toNatClampNeg i = true then oI (shortN a.1 a.2.1 a.2.2.1 h.2.2.2.1 s.toNatClampNeg i.toNatClampNeg) else -1
def V_all (h : Hs) (a : Ms) (s : Int32) : Int32 := if stB h.2.2.2.1 s = true then oI (soN (shortN a.1 a.2.1 a.2.2.1 h.2.2.2.1 s.toNatClampNeg) (tb s.toNatClampNeg) h.2.2.2.1) else -1
theorem d_shortCall (g : Gx) (n : Nat) (w : Wd) {t : Nat → Nat} {len : Nat} {h : Hs} {a : Ms} {kn : Nat} {k1 k2 : Ms} (hR : CR w t len h a kn k1 k2) (i s : Int32) : CT g yX6_shortCall cX6_shortCall 3 (some .int) rm_X6_shortCall n n w [.ref 0, .int i, .int s] (Rq (.int (V_short h a i s)) (fun w1 => CR w1 t len h a kn k1 k2 ∧ fr w w1 0 59)) := by
  obtain ⟨hi, dr, pl, nm, h', p1, p2, hC, hq1, hq2⟩ := id hR
  have hp8 : h.2.2.2.1 ≤ 8 := hC.2.2.2.2.2.1.2.1.2.2.2.2.1
  have hhd := hC.1
  have hlen := hC.2.2.1.2.2.2.1
  have h256 := p256 hp8
  refine CT.start [some (.ref 0), some (.int i), some (.int s)] (by decide +kernel) rfl (Nat.le_of_ble_eq_true rfl) (fun x C hnm => ?_)
  refine ww_aload0 C dX6_shortCall_0 ?_
  refine ww_iload2 C dX6_shortCall_1 ?_
  refine ww_cV1v C hC.2.1 rfl (c_isSet g n w hC _) kV_X6_138 ⟨Nat.le_of_ble_eq_true rfl, Nat.le_of_ble_eq_true rfl⟩ ⟨rfl, rfl⟩ ⟨Nat.le_of_ble_eq_true rfl, Nat.le_of_ble_eq_true rfl⟩ (Nat.le_of_ble_eq_true rfl) dX6_shortCall_2 ?_
  refine ww_ifeqB C (tgt := 16) dX6_shortCall_5 (by decide) (fun c5 => ?_) (fun c5 => ?_)
  · skip
    refine ww_iconst C (v := -1) dX6_shortCall_16 (by decide) ?_
    exact ww_riq C dX6_shortCall_17 rfl ⟨Nat.le_of_ble_eq_true rfl, Nat.le_of_ble_eq_true rfl⟩ (by unfold V_short; rw [if_neg (fun e => by rw [c5] at e; cases e.1)]) ⟨hR, fr.rf⟩
  · skip
    obtain ⟨q, hq0, hqm, rfl⟩ := stB_of c5
    have hcq : (nI q).toNatClampNeg = q := cl_nI (by omega)
    refine ww_iload1 C dX6_shortCall_8 ?_
    refine ww_iload2 C dX6_shortCall_9 ?_
    refine ww_cS2v C (c_isOfR g n w i (s := q) (by omega)) kS_X6_169 ⟨Nat.le_of_ble_eq_true rfl, Nat.le_of_ble_eq_true rfl⟩ ⟨rfl, rfl⟩ ⟨Nat.le_of_ble_eq_true rfl, Nat.le_of_ble_eq_true rfl⟩ (Nat.le_of_ble_eq_true rfl) dX6_shortCall_10 ?_
    refine ww_ifneB C (tgt := 18) dX6_shortCall_13 (by decide) (fun c13 => ?_) (fun c13 => ?_)
    · skip
      obtain ⟨j, hj, htb, rfl, hcj⟩ := ofB_of c13 hqm hp8
      refine ww_aload0 C dX6_shortCall_18 ?_
      refine ww_getf C fl_X6_29 hC.2.1 rfl dX6_shortCall_19 ?_
      refine ww_getf C fl_X6_65 hC.2.2.2.2.2.1.1 rfl dX6_shortCall_22 ?_
      refine ww_iload1 C dX6_shortCall_25 ?_
      refine ww_iload2 C dX6_shortCall_26 ?_
      refine ww_cV2v C hC.2.2.2.2.2.1.2.1.1 rfl (c_shortest g n w hC.2.2.2.2.2.1.2.1 hj (by omega)) kV_X6_173 ⟨Nat.le_of_ble_eq_true rfl, Nat.le_of_ble_eq_true rfl⟩ ⟨rfl, rfl⟩ ⟨Nat.le_of_ble_eq_true rfl, Nat.le_of_ble_eq_true rfl⟩ (Nat.le_of_ble_eq_true rfl) dX6_shortCall_27 ?_
      exact ww_riq C dX6_shortCall_30 rfl ⟨Nat.le_of_ble_eq_true rfl, Nat.le_of_ble_eq_true rfl⟩ (by unfold V_short; rw [hcq, if_pos ⟨c5, c13⟩, hcj]) ⟨hR, fr.rf⟩
    · skip
      refine ww_iconst C (v := -1) dX6_shortCall_16 (by decide) ?_
      exact ww_riq C dX6_shortCall_17 rfl ⟨Nat.le_of_ble_eq_true rfl, Nat.le_of_ble_eq_true rfl⟩ (by unfold V_short; rw [hcq, if_neg (fun e => by have e2 := e.2; unfold ofB at e2; rw [c13] at e2; cases e2)]) ⟨hR, fr.rf⟩
theorem d_allShort (g : Gx) (n : Nat) (w : Wd) {t : Nat → Nat} {len : Nat} {h : Hs} {a : Ms} {kn : Nat} {k1 k2 : Ms} (hR : CR w t len h a kn k1 k2) (s : Int32) : CT g yX6_allShort cX6_allShort 2 (some .int) rm_X6_allShort n n w [.ref 0, .int s] (Rq (.int (V_all h a s)) (fun w1 => CR w1 t len h a kn k1 k2 ∧ fr w w1 0 59)) := by
  obtain ⟨hi, dr, pl, nm, h', p1, p2, hC, hq1, hq2⟩ := id hR
  have hp8 : h.2.2.2.1 ≤ 8 := hC.2.2.2.2.2.1.2.1.2.2.2.2.1
  have hhd := hC.1
  have hlen := hC.2.2.1.2.2.2.1
  have h256 := p256 hp8
  refine CT.start [some (.ref 0), some (.int s)] (by decide +kernel) rfl (Nat.le_of_ble_eq_true rfl) (fun x C hnm => ?_)
  refine ww_aload0 C dX6_allShort_0 ?_
  refine ww_iload1 C dX6_allShort_1 ?_
  refine ww_cV1v C hC.2.1 rfl (c_isSet g n w hC _) kV_X6_138 ⟨Nat.le_of_ble_eq_true rfl, Nat.le_of_ble_eq_true rfl⟩ ⟨rfl, rfl⟩ ⟨Nat.le_of_ble_eq_true rfl, Nat.le_of_ble_eq_true rfl⟩ (Nat.le_of_ble_eq_true rfl) dX6_allShort_2 ?_
  refine ww_ifneB C (tgt := 10) dX6_allShort_5 (by decide) (fun c5 => ?_) (fun c5 => ?_)
  · skip
    obtain ⟨q, hq0, hqm, rfl⟩ := stB_of c5
    have hcq : (nI q).toNatClampNeg = q := cl_nI (by omega)
    refine ww_aload0 C dX6_allShort_10 ?_
    refine ww_getf C fl_X6_29 hC.2.1 rfl dX6_allShort_11 ?_
    refine ww_getf C fl_X6_65 hC.2.2.2.2.2.1.1 rfl dX6_allShort_14 ?_
    refine ww_iload1 C dX6_allShort_17 ?_
    refine ww_cV1v C hC.2.2.2.2.2.1.2.1.1 rfl (c_sumOfShortest g n w hC.2.2.2.2.2.1.2.1 (by omega)) kV_X6_176 ⟨Nat.le_of_ble_eq_true rfl, Nat.le_of_ble_eq_true rfl⟩ ⟨rfl, rfl⟩ ⟨Nat.le_of_ble_eq_true rfl, Nat.le_of_ble_eq_true rfl⟩ (Nat.le_of_ble_eq_true rfl) dX6_allShort_18 ?_
    exact ww_riq C dX6_allShort_21 rfl ⟨Nat.le_of_ble_eq_true rfl, Nat.le_of_ble_eq_true rfl⟩ (by unfold V_all; rw [if_pos c5, hcq]) ⟨hR, fr.rf⟩
  · skip
    refine ww_iconst C (v := -1) dX6_allShort_8 (by decide) ?_
    exact ww_riq C dX6_allShort_9 rfl ⟨Nat.le_of_ble_eq_true rfl, Nat.le_of_ble_eq_true rfl⟩ (by unfold V_all; rw [if_neg (by rw [c5]; decide)]) ⟨hR, fr.rf⟩
def F_greet (h : Hs) (a : Ms) (s : Nat) : Nat := (pcN h.2.2.2.1 h.2.2.2.2.2.2.2.2.2.1 (longN a.1 a.2.1) (hiN h.2.2.2.2.2.1 h.2.2.2.1 s)) s / 16
def O_greet (h : Hs) (a : Ms) (s j : Nat) : Nat × Nat := ocN h.2.2.2.1 h.2.2.2.2.2.2.2.2.2.1 (longN a.1 a.2.1) (hiN h.2.2.2.2.2.1 h.2.2.2.1 s) (pcN h.2.2.2.1 h.2.2.2.2.2.2.2.2.2.1 (longN a.1 a.2.1) (hiN h.2.2.2.2.2.1 h.2.2.2.1 s)) s (F_greet h a s) j
def K_greet (h : Hs) (a : Ms) (s j : Nat) : Option Nat := fstN (ngB h.2.2.2.2.2.2.2.2.2.1 (longN a.1 a.2.1) (hiN h.2.2.2.2.2.1 h.2.2.2.1 s) (pcN h.2.2.2.1 h.2.2.2.2.2.2.2.2.2.1 (longN a.1 a.2.1) (hiN h.2.2.2.2.2.1 h.2.2.2.1 s)) (O_greet h a s j).1 (O_greet h a s j).2 (F_greet h a s)) h.2.2.2.1
def V_greet (h : Hs) (a : Ms) (s i : Int32) : Int32 := if stB h.2.2.2.1 s = true ∧ wb (-1) (nI 7) i = true then (if i = -1 then nI (F_greet h a s.toNatClampNeg) else sqN (fun j => decide ((O_greet h a s.toNatClampNeg j).1 = 0)) (K_greet h a s.toNatClampNeg) i.toNatClampNeg) else -1
theorem wb_m {x : Int32} (h : wb (-1) (nI 7) x = true) (h2 : ¬ x = -1) : ∃ j : Nat, j ≤ 7 ∧ x = nI j := by
  have h := of_decide_eq_true h
  have m1 : (-1 : Int32).toInt = -1 := by decide
  have h3 : ¬ x.toInt = -1 := fun e => h2 (Int32.toInt_inj.mp (e.trans m1.symm))
  rw [m1, nI_toInt (by decide)] at h
  refine ⟨x.toInt.toNat, by omega, ?_⟩
  apply Int32.toInt_inj.mp
  rw [nI_toInt (by omega)]
  omega
theorem longN_ge {K M : Nat → Nat} {i : Nat} (h : 1 ≤ M i) : 1 ≤ longN K M i := by
  unfold longN
  repeat' split
  all_goals omega
theorem gr_eq (h : Hs) (a : Ms) (q z : Nat) {Or2 g4 g7 Hi2 : Nat → Nat} {od2 : Nat} (hHi : ∀ i, i < h.2.2.2.1 → Hi2 i = hiN (filN h.2.2.2.2.2.1 g7 h.2.2.2.1) h.2.2.2.1 q i)
    (hOr : ∀ j, j < od2 → fstN (ngB h.2.2.2.2.2.2.2.2.2.1 (filN (longN a.1 a.2.1) g4 h.2.2.2.1) Hi2 (pcN h.2.2.2.1 h.2.2.2.2.2.2.2.2.2.1 (filN (longN a.1 a.2.1) g4 h.2.2.2.1) Hi2) (ocN h.2.2.2.1 h.2.2.2.2.2.2.2.2.2.1 (filN (longN a.1 a.2.1) g4 h.2.2.2.1) Hi2 (pcN h.2.2.2.1 h.2.2.2.2.2.2.2.2.2.1 (filN (longN a.1 a.2.1) g4 h.2.2.2.1) Hi2) q (F_greet h a q) j).1 (ocN h.2.2.2.1 h.2.2.2.2.2.2.2.2.2.1 (filN (longN a.1 a.2.1) g4 h.2.2.2.1) Hi2 (pcN h.2.2.2.1 h.2.2.2.2.2.2.2.2.2.1 (filN (longN a.1 a.2.1) g4 h.2.2.2.1) Hi2) q (F_greet h a q) j).2 (F_greet h a q)) h.2.2.2.1 = some (Or2 j) ∧ ¬ (ocN h.2.2.2.1 h.2.2.2.2.2.2.2.2.2.1 (filN (longN a.1 a.2.1) g4 h.2.2.2.1) Hi2 (pcN h.2.2.2.1 h.2.2.2.2.2.2.2.2.2.1 (filN (longN a.1 a.2.1) g4 h.2.2.2.1) Hi2) q (F_greet h a q) j).1 = 0) (hEx : (ocN h.2.2.2.1 h.2.2.2.2.2.2.2.2.2.1 (filN (longN a.1 a.2.1) g4 h.2.2.2.1) Hi2 (pcN h.2.2.2.1 h.2.2.2.2.2.2.2.2.2.1 (filN (longN a.1 a.2.1) g4 h.2.2.2.1) Hi2) q (F_greet h a q) od2).1 = 0 ∨ fstN (ngB h.2.2.2.2.2.2.2.2.2.1 (filN (longN a.1 a.2.1) g4 h.2.2.2.1) Hi2 (pcN h.2.2.2.1 h.2.2.2.2.2.2.2.2.2.1 (filN (longN a.1 a.2.1) g4 h.2.2.2.1) Hi2) (ocN h.2.2.2.1 h.2.2.2.2.2.2.2.2.2.1 (filN (longN a.1 a.2.1) g4 h.2.2.2.1) Hi2 (pcN h.2.2.2.1 h.2.2.2.2.2.2.2.2.2.1 (filN (longN a.1 a.2.1) g4 h.2.2.2.1) Hi2) q (F_greet h a q) od2).1 (ocN h.2.2.2.1 h.2.2.2.2.2.2.2.2.2.1 (filN (longN a.1 a.2.1) g4 h.2.2.2.1) Hi2 (pcN h.2.2.2.1 h.2.2.2.2.2.2.2.2.2.1 (filN (longN a.1 a.2.1) g4 h.2.2.2.1) Hi2) q (F_greet h a q) od2).2 (F_greet h a q)) h.2.2.2.1 = none ∨ od2 = 8) (hz : z ≤ 7) : (if z < od2 then nI (Or2 z) else -4) = sqN (fun j => decide ((O_greet h a q j).1 = 0)) (K_greet h a q) z := by
  have hL : ∀ i, i < h.2.2.2.1 → (filN (longN a.1 a.2.1) g4 h.2.2.2.1) i = (longN a.1 a.2.1) i := fun i hi => filN_lt hi
  have hH : ∀ i, i < h.2.2.2.1 → Hi2 i = hiN h.2.2.2.2.2.1 h.2.2.2.1 q i := fun i hi => (hHi i hi).trans (hiN_c (fun i hi => filN_lt hi) hi)
  have hP : pcN h.2.2.2.1 h.2.2.2.2.2.2.2.2.2.1 (filN (longN a.1 a.2.1) g4 h.2.2.2.1) Hi2 = pcN h.2.2.2.1 h.2.2.2.2.2.2.2.2.2.1 (longN a.1 a.2.1) (hiN h.2.2.2.2.2.1 h.2.2.2.1 q) := funext (pcN_c hH hL)
  have hO : ∀ j, (ocN h.2.2.2.1 h.2.2.2.2.2.2.2.2.2.1 (filN (longN a.1 a.2.1) g4 h.2.2.2.1) Hi2 (pcN h.2.2.2.1 h.2.2.2.2.2.2.2.2.2.1 (filN (longN a.1 a.2.1) g4 h.2.2.2.1) Hi2) q (F_greet h a q) j) = O_greet h a q j := fun j => by rw [ocN_c hL hH, hP]; rfl
  have hK : ∀ j, fstN (ngB h.2.2.2.2.2.2.2.2.2.1 (filN (longN a.1 a.2.1) g4 h.2.2.2.1) Hi2 (pcN h.2.2.2.1 h.2.2.2.2.2.2.2.2.2.1 (filN (longN a.1 a.2.1) g4 h.2.2.2.1) Hi2) (ocN h.2.2.2.1 h.2.2.2.2.2.2.2.2.2.1 (filN (longN a.1 a.2.1) g4 h.2.2.2.1) Hi2 (pcN h.2.2.2.1 h.2.2.2.2.2.2.2.2.2.1 (filN (longN a.1 a.2.1) g4 h.2.2.2.1) Hi2) q (F_greet h a q) j).1 (ocN h.2.2.2.1 h.2.2.2.2.2.2.2.2.2.1 (filN (longN a.1 a.2.1) g4 h.2.2.2.1) Hi2 (pcN h.2.2.2.1 h.2.2.2.2.2.2.2.2.2.1 (filN (longN a.1 a.2.1) g4 h.2.2.2.1) Hi2) q (F_greet h a q) j).2 (F_greet h a q)) h.2.2.2.1 = K_greet h a q j := fun j => by rw [hO, ngB_c hL hH, hP]; rfl
  by_cases c : z < od2
  · rw [if_pos c]
    exact (sq_in (fun j hj => by
      have := hOr j (by omega)
      rw [hK, hO] at this
      exact ⟨this.1, decide_eq_false this.2⟩)).symm
  · rw [if_neg c]
    rcases hEx with e | e | e
    · exact (sq_out (od := od2) (by omega) (Or.inl (by rw [hO] at e; exact decide_eq_true e))).symm
    · exact (sq_out (od := od2) (by omega) (Or.inr (by rw [hK] at e; exact e))).symm
    · omega
theorem d_greet (g : Gx) (n : Nat) (w : Wd) {t : Nat → Nat} {len : Nat} {h : Hs} {a : Ms} {kn : Nat} {k1 k2 : Ms} (hR : CR w t len h a kn k1 k2) (s i : Int32) (hb1 : 1 ≤ h.2.2.2.2.2.2.2.2.2.1) (hM1 : ∀ j, j < h.2.2.2.1 → 1 ≤ a.2.1 j) : CT g yX6_greet cX6_greet 4 (some .int) rm_X6_greet n n w [.ref 0, .int s, .int i] (Rq (.int (V_greet h a s i)) (fun w1 => CR w1 t len h a kn k1 k2 ∧ fr w w1 0 59)) := by
  obtain ⟨hi, dr, pl, nm, h', p1, p2, hC, hq1, hq2⟩ := id hR
  have hp8 : h.2.2.2.1 ≤ 8 := hC.2.2.2.2.2.1.2.1.2.2.2.2.1
  have hhd := hC.1
  have hlen := hC.2.2.1.2.2.2.1
  obtain ⟨g1, g2, g3, g4, g5, g6, g7, g8, g9, g10, g11, g12, g13, hG⟩ := hC.2.2.2.2.2.2.2.2.1
  have h256 := p256 hp8
  refine CT.start [some (.ref 0), some (.int s), some (.int i), none] (by decide +kernel) rfl (Nat.le_of_ble_eq_true rfl) (fun x C hnm => ?_)
  refine ww_aload0 C dX6_greet_0 ?_
  refine ww_iload1 C dX6_greet_1 ?_
  refine ww_cV1v C hC.2.1 rfl (c_isSet g n w hC _) kV_X6_138 ⟨Nat.le_of_ble_eq_true rfl, Nat.le_of_ble_eq_true rfl⟩ ⟨rfl, rfl⟩ ⟨Nat.le_of_ble_eq_true rfl, Nat.le_of_ble_eq_true rfl⟩ (Nat.le_of_ble_eq_true rfl) dX6_greet_2 ?_
  refine ww_ifeqB C (tgt := 18) dX6_greet_5 (by decide) (fun c5 => ?_) (fun c5 => ?_)
  · skip
    refine ww_iconst C (v := -1) dX6_greet_18 (by decide) ?_
    exact ww_riq C dX6_greet_19 rfl ⟨Nat.le_of_ble_eq_true rfl, Nat.le_of_ble_eq_true rfl⟩ (by unfold V_greet; rw [if_neg (fun e => by rw [c5] at e; cases e.1)]) ⟨hR, fr.rf⟩
  · skip
    obtain ⟨q, hq0, hqm, rfl⟩ := stB_of c5
    have hcq : (nI q).toNatClampNeg = q := cl_nI (by omega)
    refine ww_iload2 C dX6_greet_8 ?_
    refine ww_iconst C (v := -1) dX6_greet_9 (by decide) ?_
    refine ww_bipush C (v := nI 7) dX6_greet_10 (by decide) ?_
    refine ww_cS3v C (c_within g n w _ _ _) kS_X6_73 ⟨Nat.le_of_ble_eq_true rfl, Nat.le_of_ble_eq_true rfl⟩ ⟨rfl, rfl⟩ ⟨Nat.le_of_ble_eq_true rfl, Nat.le_of_ble_eq_true rfl⟩ (Nat.le_of_ble_eq_true rfl) dX6_greet_12 ?_
    refine ww_ifneB C (tgt := 20) dX6_greet_15 (by decide) (fun c15 => ?_) (fun c15 => ?_)
    · skip
      refine ww_aload0 C dX6_greet_20 ?_
      refine ww_getf C fl_X6_46 hC.2.1 rfl dX6_greet_21 ?_
      refine ww_aload0 C dX6_greet_24 ?_
      refine ww_getf C fl_X6_19 hC.2.1 rfl dX6_greet_25 ?_
      refine ww_aload0 C dX6_greet_28 ?_
      refine ww_getf C fl_X6_29 hC.2.1 rfl dX6_greet_29 ?_
      refine ww_getf C fl_X6_65 hC.2.2.2.2.2.1.1 rfl dX6_greet_32 ?_
      refine ww_cV20q C hG.1 rfl (c_learn g n w hG hC.2.2.2.1 hC.2.2.2.2.2.1.2.1 (by omega) (by omega)) kV_X6_141 ⟨Nat.le_of_ble_eq_true rfl, Nat.le_of_ble_eq_true rfl⟩ ⟨rfl, rfl⟩ ⟨Nat.le_of_ble_eq_true rfl, Nat.le_of_ble_eq_true rfl⟩ (Nat.le_of_ble_eq_true rfl) dX6_greet_35 (fun w1 hw1 => ?_)
      obtain ⟨hG, hfl⟩ := hw1
      have hC := hC.g ⟨_, _, _, _, _, _, _, _, _, _, _, _, _, hG⟩ hfl
      refine ww_aload0 C dX6_greet_38 ?_
      refine ww_getf C fl_X6_46 hC.2.1 rfl dX6_greet_39 ?_
      refine ww_iload1 C dX6_greet_42 ?_
      refine ww_cV1vq C hG.1 rfl (c_fewest g n w1 hG (s := q) hb1 hqm) kV_X6_163 ⟨Nat.le_of_ble_eq_true rfl, Nat.le_of_ble_eq_true rfl⟩ ⟨rfl, rfl⟩ ⟨Nat.le_of_ble_eq_true rfl, Nat.le_of_ble_eq_true rfl⟩ (Nat.le_of_ble_eq_true rfl) dX6_greet_43 (fun w2 hw2 => ?_)
      obtain ⟨Hi2, Pk2, hG, hHi, hPk, hf2⟩ := hw2
      have hC := hC.g ⟨_, _, _, _, _, _, _, _, _, _, _, _, _, hG⟩ hf2
      have hff := hfl.tr hf2
      have hFE : pcN h.2.2.2.1 h.2.2.2.2.2.2.2.2.2.1 (filN (longN a.1 a.2.1) g4 h.2.2.2.1) (hiN (filN h.2.2.2.2.2.1 g7 h.2.2.2.1) h.2.2.2.1 q) q / 16 = F_greet h a q := by unfold F_greet; rw [pcN_c (fun i hi => hiN_c (fun i hi => filN_lt hi) hi) (fun i hi => filN_lt hi)]
      rw [hFE]
      refine ww_istore3 C dX6_greet_46 (by decide) rfl ?_
      refine ww_iload2 C dX6_greet_47 ?_
      refine ww_iconst C (v := -1) dX6_greet_48 (by decide) ?_
      refine ww_icmpne C (tgt := 54) dX6_greet_49 (by decide) (fun c49 => ?_) (fun c49 => ?_)
      · skip
        obtain ⟨z, hz7, rfl⟩ := wb_m c15 c49
        have hcz : (nI z).toNatClampNeg = z := cl_nI (by omega)
        refine ww_aload0 C dX6_greet_54 ?_
        refine ww_getf C fl_X6_46 hC.2.1 rfl dX6_greet_55 ?_
        refine ww_iload1 C dX6_greet_58 ?_
        refine ww_iload3 C dX6_greet_59 ?_
        refine ww_cV20q C hG.1 rfl (c_orderCouncil g n w2 hG (s := q) (fe := F_greet h a q) hb1 (by omega) (by unfold F_greet; have := pcN_b (Lo := longN a.1 a.2.1) (Hi := hiN h.2.2.2.2.2.1 h.2.2.2.1 q) hp8 hb1 (hC.2.2.2.1.2.2.2.2.2.2.2.2.2.2.2.2.1) (fun i => longN_le (K := a.1) (hC.2.2.2.2.2.1.2.1.2.2.2.2.2.2.1 i)) q; omega) (fun i hi => by rw [filN_lt hi]; exact longN_ge (hM1 i hi)) (fun j h1 h2 => by rw [pcN_c hHi (fun _ _ => rfl)]; exact hPk j h1 h2)) kV_X6_166 ⟨Nat.le_of_ble_eq_true rfl, Nat.le_of_ble_eq_true rfl⟩ ⟨rfl, rfl⟩ ⟨Nat.le_of_ble_eq_true rfl, Nat.le_of_ble_eq_true rfl⟩ (Nat.le_of_ble_eq_true rfl) dX6_greet_60 (fun w3 hw3 => ?_)
        obtain ⟨Or2, od2, hG, hOr, hEx, hf3⟩ := hw3
        have hC := hC.g ⟨_, _, _, _, _, _, _, _, _, _, _, _, _, hG⟩ hf3
        refine ww_aload0 C dX6_greet_63 ?_
        refine ww_getf C fl_X6_46 hC.2.1 rfl dX6_greet_64 ?_
        refine ww_iload2 C dX6_greet_67 ?_
        refine ww_cV1v C hG.1 rfl (c_inOrder g n w3 hG (i := z) (by omega)) kV_X6_160 ⟨Nat.le_of_ble_eq_true rfl, Nat.le_of_ble_eq_true rfl⟩ ⟨rfl, rfl⟩ ⟨Nat.le_of_ble_eq_true rfl, Nat.le_of_ble_eq_true rfl⟩ (Nat.le_of_ble_eq_true rfl) dX6_greet_68 ?_
        exact ww_riq C dX6_greet_71 rfl ⟨Nat.le_of_ble_eq_true rfl, Nat.le_of_ble_eq_true rfl⟩ (by unfold V_greet; rw [if_pos (And.intro c5 c15), if_neg c49, hcq, hcz]; exact gr_eq h a q z hHi hOr hEx hz7) ⟨⟨_, _, _, _, _, _, _, hC, hq1, hq2⟩, (hff.tr hf3).wide (by omega) (by omega)⟩
      · skip
        refine ww_iload3 C dX6_greet_52 ?_
        exact ww_riq C dX6_greet_53 rfl ⟨Nat.le_of_ble_eq_true rfl, Nat.le_of_ble_eq_true rfl⟩ (by unfold V_greet; rw [if_pos ⟨c5, c15⟩, if_pos c49, hcq]) ⟨⟨_, _, _, _, _, _, _, hC, hq1, hq2⟩, hff.wide (by omega) (by omega)⟩
    · skip
      refine ww_iconst C (v := -1) dX6_greet_18 (by decide) ?_
      exact ww_riq C dX6_greet_19 rfl ⟨Nat.le_of_ble_eq_true rfl, Nat.le_of_ble_eq_true rfl⟩ (by unfold V_greet; rw [if_neg (fun e => by rw [c15] at e; cases e.2)]) ⟨hR, fr.rf⟩
