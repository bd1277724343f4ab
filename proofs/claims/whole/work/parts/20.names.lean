abbrev rm_X0_init : Room := { frames := 1, cells := 0, slots := 0, locals := 20 }
abbrev rm_X0_empty : Room := { frames := 0, cells := 0, slots := 0, locals := 0 }
abbrev rm_X0_copyFrom : Room := { frames := 1, cells := 0, slots := 0, locals := 26 }
abbrev rm_X0_take : Room := { frames := 0, cells := 0, slots := 0, locals := 0 }
abbrev rm_X0_likeness : Room := { frames := 3, cells := 0, slots := 0, locals := 67 }
abbrev rm_X1_init : Room := { frames := 1, cells := 0, slots := 0, locals := 20 }
abbrev rm_X1_learn : Room := { frames := 4, cells := 0, slots := 0, locals := 93 }
abbrev rm_X1_inOrder : Room := { frames := 1, cells := 0, slots := 0, locals := 22 }
abbrev rm_X1_breathsFor : Room := { frames := 0, cells := 0, slots := 0, locals := 0 }
abbrev rm_X1_beatsToCall : Room := { frames := 2, cells := 0, slots := 0, locals := 43 }
abbrev rm_X1_mostSaved : Room := { frames := 3, cells := 0, slots := 0, locals := 67 }
abbrev rm_X1_someoneCanBeLast : Room := { frames := 2, cells := 0, slots := 0, locals := 43 }
abbrev rm_X1_orderWarning : Room := { frames := 3, cells := 0, slots := 0, locals := 68 }
abbrev rm_X1_nextSaved : Room := { frames := 2, cells := 0, slots := 0, locals := 43 }
abbrev rm_X1_fewestBreaths : Room := { frames := 4, cells := 0, slots := 0, locals := 89 }
abbrev rm_X1_rankAll : Room := { frames := 2, cells := 0, slots := 0, locals := 43 }
abbrev rm_X1_mayBeFirst : Room := { frames := 2, cells := 0, slots := 0, locals := 43 }
abbrev rm_X1_leastPacking : Room := { frames := 3, cells := 0, slots := 0, locals := 65 }
abbrev rm_X1_nothingPacked : Room := { frames := 0, cells := 0, slots := 0, locals := 0 }
abbrev rm_X1_packed : Room := { frames := 1, cells := 0, slots := 0, locals := 21 }
abbrev rm_X1_joined : Room := { frames := 0, cells := 0, slots := 0, locals := 0 }
abbrev rm_X1_orderCouncil : Room := { frames := 4, cells := 0, slots := 0, locals := 89 }
abbrev rm_X1_nextGreeted : Room := { frames := 3, cells := 0, slots := 0, locals := 65 }
abbrev rm_X2_init : Room := { frames := 2, cells := 0, slots := 0, locals := 40 }
abbrev rm_X2_empty : Room := { frames := 0, cells := 0, slots := 0, locals := 0 }
abbrev rm_X2_settle : Room := { frames := 1, cells := 0, slots := 0, locals := 25 }
abbrev rm_X2_pacesOf : Room := { frames := 1, cells := 0, slots := 0, locals := 21 }
abbrev rm_X2_rankOf : Room := { frames := 1, cells := 0, slots := 0, locals := 21 }
abbrev rm_X2_beatsOf : Room := { frames := 3, cells := 0, slots := 0, locals := 67 }
abbrev rm_X2_doDeed : Room := { frames := 2, cells := 0, slots := 0, locals := 43 }
abbrev rm_X2_liveYears : Room := { frames := 3, cells := 0, slots := 0, locals := 66 }
abbrev rm_X2_drawnDeed : Room := { frames := 0, cells := 0, slots := 0, locals := 0 }
abbrev rm_X3_init : Room := { frames := 2, cells := 0, slots := 0, locals := 40 }
abbrev rm_X3_copyFrom : Room := { frames := 2, cells := 0, slots := 0, locals := 47 }
abbrev rm_X4_init : Room := { frames := 1, cells := 0, slots := 0, locals := 20 }
abbrev rm_X4_copyFrom : Room := { frames := 1, cells := 0, slots := 0, locals := 26 }
abbrev rm_X4_has : Room := { frames := 0, cells := 0, slots := 0, locals := 0 }
abbrev rm_X4_enter : Room := { frames := 0, cells := 0, slots := 0, locals := 0 }
abbrev rm_X4_kindOf : Room := { frames := 1, cells := 0, slots := 0, locals := 21 }
abbrev rm_X4_changeKind : Room := { frames := 2, cells := 0, slots := 0, locals := 42 }
abbrev rm_X4_sizeOf : Room := { frames := 1, cells := 0, slots := 0, locals := 21 }
abbrev rm_X4_longOf : Room := { frames := 1, cells := 0, slots := 0, locals := 21 }
abbrev rm_X4_longest : Room := { frames := 2, cells := 0, slots := 0, locals := 43 }
abbrev rm_X4_syllableAt : Room := { frames := 1, cells := 0, slots := 0, locals := 22 }
abbrev rm_X4_saidAt : Room := { frames := 2, cells := 0, slots := 0, locals := 44 }
abbrev rm_X4_gain : Room := { frames := 1, cells := 0, slots := 0, locals := 21 }
abbrev rm_X4_lose : Room := { frames := 1, cells := 0, slots := 0, locals := 21 }
abbrev rm_X4_alike : Room := { frames := 3, cells := 0, slots := 0, locals := 67 }
abbrev rm_X4_shortest : Room := { frames := 4, cells := 0, slots := 0, locals := 91 }
abbrev rm_X4_sumOfShortest : Room := { frames := 5, cells := 0, slots := 0, locals := 115 }
abbrev rm_X4_numberOfShort : Room := { frames := 5, cells := 0, slots := 0, locals := 115 }
abbrev rm_X5_init : Room := { frames := 1, cells := 0, slots := 0, locals := 20 }
abbrev rm_X5_hasRoom : Room := { frames := 0, cells := 0, slots := 0, locals := 0 }
abbrev rm_X5_put : Room := { frames := 0, cells := 0, slots := 0, locals := 0 }
abbrev rm_X5_readInto : Room := { frames := 5, cells := 0, slots := 0, locals := 114 }
abbrev rm_X5_readItem : Room := { frames := 4, cells := 0, slots := 0, locals := 92 }
abbrev rm_X5_readPerson : Room := { frames := 3, cells := 0, slots := 0, locals := 67 }
abbrev rm_X5_readWorth : Room := { frames := 3, cells := 0, slots := 0, locals := 67 }
abbrev rm_X5_readShame : Room := { frames := 3, cells := 0, slots := 0, locals := 67 }
abbrev rm_X5_readBeats : Room := { frames := 3, cells := 0, slots := 0, locals := 67 }
abbrev rm_X5_readBreath : Room := { frames := 3, cells := 0, slots := 0, locals := 67 }
abbrev rm_X5_readMisheard : Room := { frames := 3, cells := 0, slots := 0, locals := 67 }
abbrev rm_X5_here : Room := { frames := 1, cells := 0, slots := 0, locals := 22 }
abbrev rm_X5_number : Room := { frames := 2, cells := 0, slots := 0, locals := 42 }
abbrev rm_X5_readName : Room := { frames := 2, cells := 0, slots := 0, locals := 42 }
abbrev rm_X6_init : Room := { frames := 3, cells := 0, slots := 0, locals := 60 }
abbrev rm_X6_write : Room := { frames := 1, cells := 0, slots := 0, locals := 24 }
abbrev rm_X6_wipe : Room := { frames := 0, cells := 0, slots := 0, locals := 0 }
abbrev rm_X6_fault : Room := { frames := 6, cells := 0, slots := 0, locals := 137 }
abbrev rm_X6_lay : Room := { frames := 6, cells := 0, slots := 0, locals := 137 }
abbrev rm_X6_person : Room := { frames := 4, cells := 0, slots := 0, locals := 93 }
abbrev rm_X6_said : Room := { frames := 3, cells := 0, slots := 0, locals := 67 }
abbrev rm_X6_deed : Room := { frames := 3, cells := 0, slots := 0, locals := 66 }
abbrev rm_X6_kind : Room := { frames := 3, cells := 0, slots := 0, locals := 65 }
abbrev rm_X6_cry : Room := { frames := 5, cells := 0, slots := 0, locals := 116 }
abbrev rm_X6_warn : Room := { frames := 5, cells := 0, slots := 0, locals := 116 }
abbrev rm_X6_called : Room := { frames := 5, cells := 0, slots := 0, locals := 116 }
abbrev rm_X6_greet : Room := { frames := 5, cells := 0, slots := 0, locals := 116 }
abbrev rm_X6_shortCall : Room := { frames := 5, cells := 0, slots := 0, locals := 115 }
abbrev rm_X6_allShort : Room := { frames := 6, cells := 0, slots := 0, locals := 139 }
abbrev rm_X6_apart : Room := { frames := 6, cells := 0, slots := 0, locals := 139 }
abbrev rm_X6_hear : Room := { frames := 1, cells := 0, slots := 0, locals := 22 }
abbrev rm_X6_forget : Room := { frames := 1, cells := 0, slots := 0, locals := 20 }
abbrev rm_X6_odds : Room := { frames := 5, cells := 0, slots := 0, locals := 114 }
abbrev rm_X6_meant : Room := { frames := 5, cells := 0, slots := 0, locals := 114 }
abbrev rm_X6_years : Room := { frames := 6, cells := 0, slots := 0, locals := 138 }
abbrev rm_X6_then : Room := { frames := 4, cells := 0, slots := 0, locals := 92 }
abbrev rm_X6_keep : Room := { frames := 3, cells := 0, slots := 0, locals := 68 }
abbrev rm_X6_back : Room := { frames := 3, cells := 0, slots := 0, locals := 68 }
abbrev rm_X6_count : Room := { frames := 0, cells := 0, slots := 0, locals := 0 }
abbrev rm_X6_within : Room := { frames := 0, cells := 0, slots := 0, locals := 0 }
abbrev rm_X6_isOf : Room := { frames := 1, cells := 0, slots := 0, locals := 22 }
abbrev rm_X6_isHillTime : Room := { frames := 1, cells := 0, slots := 0, locals := 22 }
abbrev rm_X6_commonDivisor : Room := { frames := 0, cells := 0, slots := 0, locals := 0 }
abbrev rm_X6_everyone : Room := { frames := 0, cells := 0, slots := 0, locals := 0 }
abbrev rm_X6_isSet : Room := { frames := 1, cells := 0, slots := 0, locals := 22 }
abbrev rm_X6_weightOf : Room := { frames := 4, cells := 0, slots := 0, locals := 93 }
abbrev rm_X6_keptPlace : Room := { frames := 0, cells := 0, slots := 0, locals := 0 }
abbrev rm_X7_init : Room := { frames := 1, cells := 0, slots := 0, locals := 22 }
abbrev rm_X7_in : Room := { frames := 0, cells := 0, slots := 0, locals := 0 }
abbrev rm_X7_has : Room := { frames := 0, cells := 0, slots := 0, locals := 0 }
abbrev rm_X7_noHill : Room := { frames := 0, cells := 0, slots := 0, locals := 0 }
abbrev rm_X7_write : Room := { frames := 1, cells := 0, slots := 0, locals := 25 }
abbrev rm_X7_wipe : Room := { frames := 0, cells := 0, slots := 0, locals := 0 }
abbrev rm_X7_byteAt : Room := { frames := 0, cells := 0, slots := 0, locals := 0 }
abbrev rm_X7_figures : Room := { frames := 1, cells := 0, slots := 0, locals := 25 }
abbrev rm_X7_personItem : Room := { frames := 2, cells := 0, slots := 0, locals := 50 }
abbrev rm_X7_item : Room := { frames := 3, cells := 0, slots := 0, locals := 72 }
abbrev rm_X7_readAll : Room := { frames := 4, cells := 0, slots := 0, locals := 93 }
abbrev rm_X7_fault : Room := { frames := 5, cells := 0, slots := 0, locals := 114 }
abbrev rm_X7_layHill : Room := { frames := 0, cells := 0, slots := 0, locals := 0 }
abbrev rm_X7_lay : Room := { frames := 5, cells := 0, slots := 0, locals := 114 }
abbrev rm_X7_isPerson : Room := { frames := 1, cells := 0, slots := 0, locals := 25 }
abbrev rm_X7_isSet : Room := { frames := 1, cells := 0, slots := 0, locals := 25 }
abbrev rm_X7_laySaid : Room := { frames := 0, cells := 0, slots := 0, locals := 0 }
abbrev rm_X7_sayNow : Room := { frames := 1, cells := 0, slots := 0, locals := 29 }
abbrev rm_X7_person : Room := { frames := 2, cells := 0, slots := 0, locals := 49 }
abbrev rm_X7_said : Room := { frames := 2, cells := 0, slots := 0, locals := 49 }
abbrev rm_X7_doDeed : Room := { frames := 0, cells := 0, slots := 0, locals := 0 }
abbrev rm_X7_deed : Room := { frames := 2, cells := 0, slots := 0, locals := 46 }
abbrev rm_X7_kind : Room := { frames := 2, cells := 0, slots := 0, locals := 46 }
abbrev rm_X7_cryOf : Room := { frames := 1, cells := 0, slots := 0, locals := 21 }
abbrev rm_X7_cry : Room := { frames := 2, cells := 0, slots := 0, locals := 49 }
abbrev rm_X7_isInTime : Room := { frames := 2, cells := 0, slots := 0, locals := 45 }
abbrev rm_X7_bits : Room := { frames := 0, cells := 0, slots := 0, locals := 0 }
abbrev rm_X7_layWarning : Room := { frames := 3, cells := 0, slots := 0, locals := 68 }
abbrev rm_X7_warn : Room := { frames := 4, cells := 0, slots := 0, locals := 92 }
abbrev rm_X7_layFollows : Room := { frames := 3, cells := 0, slots := 0, locals := 68 }
abbrev rm_X7_called : Room := { frames := 4, cells := 0, slots := 0, locals := 93 }
abbrev rm_X7_breathsFor : Room := { frames := 0, cells := 0, slots := 0, locals := 0 }
abbrev rm_X7_roomBehind : Room := { frames := 0, cells := 0, slots := 0, locals := 0 }
abbrev rm_X7_mayGreet : Room := { frames := 1, cells := 0, slots := 0, locals := 21 }
abbrev rm_X7_layNeeds : Room := { frames := 2, cells := 0, slots := 0, locals := 46 }
abbrev rm_X7_greet : Room := { frames := 3, cells := 0, slots := 0, locals := 72 }
abbrev rm_X7_answers : Room := { frames := 0, cells := 0, slots := 0, locals := 0 }
abbrev rm_X7_shortOf : Room := { frames := 1, cells := 0, slots := 0, locals := 25 }
abbrev rm_X7_allShortOf : Room := { frames := 2, cells := 0, slots := 0, locals := 51 }
abbrev rm_X7_shortCall : Room := { frames := 2, cells := 0, slots := 0, locals := 51 }
abbrev rm_X7_allShort : Room := { frames := 3, cells := 0, slots := 0, locals := 76 }
abbrev rm_X7_apart : Room := { frames := 3, cells := 0, slots := 0, locals := 76 }
abbrev rm_X7_hear : Room := { frames := 1, cells := 0, slots := 0, locals := 25 }
abbrev rm_X7_forget : Room := { frames := 0, cells := 0, slots := 0, locals := 0 }
abbrev rm_X7_weightOf : Room := { frames := 0, cells := 0, slots := 0, locals := 0 }
abbrev rm_X7_odds : Room := { frames := 2, cells := 0, slots := 0, locals := 49 }
abbrev rm_X7_meant : Room := { frames := 2, cells := 0, slots := 0, locals := 49 }
abbrev rm_X7_copy : Room := { frames := 0, cells := 0, slots := 0, locals := 0 }
abbrev rm_X7_goYears : Room := { frames := 1, cells := 0, slots := 0, locals := 23 }
abbrev rm_X7_isHill : Room := { frames := 1, cells := 0, slots := 0, locals := 25 }
abbrev rm_X7_years : Room := { frames := 2, cells := 0, slots := 0, locals := 51 }
abbrev rm_X7_then : Room := { frames := 2, cells := 0, slots := 0, locals := 50 }
abbrev rm_X7_copyHeard : Room := { frames := 0, cells := 0, slots := 0, locals := 0 }
abbrev rm_X7_keep : Room := { frames := 1, cells := 0, slots := 0, locals := 23 }
abbrev rm_X7_back : Room := { frames := 1, cells := 0, slots := 0, locals := 23 }
abbrev rm_X7_count : Room := { frames := 0, cells := 0, slots := 0, locals := 0 }
abbrev rm_J6_bitCount_0f7a4 : Room := { frames := 0, cells := 0, slots := 0, locals := 0 }
abbrev rm_J9_max_7cf53 : Room := { frames := 0, cells := 0, slots := 0, locals := 0 }
abbrev rm_J9_min_7cf53 : Room := { frames := 0, cells := 0, slots := 0, locals := 0 }

/-- a number between two, as within says -/
def wb (a b v : Int32) : Bool := decide (a.toInt ≤ v.toInt ∧ v.toInt ≤ b.toInt)
def hb (p : Nat) (i : Int32) : Bool := decide (0 ≤ i.toInt ∧ i.toInt < p)
theorem hb_N {p i : Nat} (h : i < p) (hp : p ≤ 100000) : hb p (nI i) = true := decide_eq_true (by rw [nI_toInt (by omega)]; omega)
theorem hb_of {p : Nat} {i : Int32} (h : hb p i = true) : ∃ j : Nat, j < p ∧ i = nI j := by
  have h := of_decide_eq_true h
  refine ⟨i.toInt.toNat, by omega, ?_⟩
  apply Int32.toInt_inj.mp
  have := i.toInt_lt
  rw [nI_toInt (by omega)]
  omega
theorem wb_N {a b v : Nat} (ha : a < 2147483648) (hb : b < 2147483648) (hv : v < 2147483648) : wb (nI a) (nI b) (nI v) = decide (a ≤ v ∧ v ≤ b) := by
  unfold wb
  rw [nI_toInt ha, nI_toInt hb, nI_toInt hv]
  exact decide_eq_decide.mpr (by omega)
theorem wb_P {v : Int32} {p : Nat} (hp : p < 1073741824) : wb (nI 0) (nI p - nI 1) v = hb p v := by
  unfold wb hb
  rw [pk_sub_toInt hp (by decide), nI_toInt (by decide)]
  exact decide_eq_decide.mpr (by omega)
theorem wb_R {v : Int32} {p : Nat} (hp : p < 1073741824) : wb (nI 0) (nI p) v = hb (p + 1) v := by
  unfold wb hb
  rw [nI_toInt (n := p) (by omega), nI_toInt (n := 0) (by decide)]
  exact decide_eq_decide.mpr (by omega)
/-- a person's bit in a set -/
def tb (s i : Nat) : Bool := s.testBit i
theorem tb_and {s i : Nat} (hs : s < 2147483648) : s &&& 2 ^ i < 2147483648 := Nat.lt_of_le_of_lt Nat.and_le_left hs
theorem tb_0 {s i : Nat} (h : s &&& 2 ^ i = 0) : tb s i = false := (fb_bit_nat s i).mp h
theorem tb_1 {s i : Nat} (h : ¬ s &&& 2 ^ i = 0) : tb s i = true := by
  cases e : tb s i with
  | true => rfl
  | false => exact absurd ((fb_bit_nat s i).mpr e) h

theorem c_within (g : Gx) (n : Nat) (w : Wd) (v a b : Int32) : CT g yX6_within cX6_within 3 (some .boolean) rm_X6_within n n w [.int v, .int a, .int b] (Rv (.int (bz (wb a b v))) w) := by
  refine CT.start [some (.int v), some (.int a), some (.int b)] (by decide +kernel) rfl (Nat.le_of_ble_eq_true rfl) (fun x C hnm => ?_)
  refine ww_iload0 C dX6_within_0 ?_
  refine ww_iload1 C dX6_within_1 ?_
  refine ww_icmplt C (tgt := 14) dX6_within_2 (by decide) (fun c => ?_) (fun c => ?_)
  · refine ww_iconst C (v := 0) dX6_within_14 (by decide) ?_
    exact ww_rz C dX6_within_15 rfl ⟨Nat.le_of_ble_eq_true rfl, Nat.le_of_ble_eq_true rfl⟩ (by rw [show wb a b v = false from decide_eq_false (by have := Int32.lt_iff_toInt_lt.mp c; omega)]; rfl) rfl
  · refine ww_iload0 C dX6_within_5 ?_
    refine ww_iload2 C dX6_within_6 ?_
    refine ww_icmpgt C (tgt := 14) dX6_within_7 (by decide) (fun d => ?_) (fun d => ?_)
    · refine ww_iconst C (v := 0) dX6_within_14 (by decide) ?_
      exact ww_rz C dX6_within_15 rfl ⟨Nat.le_of_ble_eq_true rfl, Nat.le_of_ble_eq_true rfl⟩ (by rw [show wb a b v = false from decide_eq_false (by have := Int32.lt_iff_toInt_lt.mp d; omega)]; rfl) rfl
    · refine ww_iconst C (v := 1) dX6_within_10 (by decide) ?_
      refine ww_goto C (tgt := 15) dX6_within_11 (by decide) ?_
      exact ww_rz C dX6_within_15 rfl ⟨Nat.le_of_ble_eq_true rfl, Nat.le_of_ble_eq_true rfl⟩ (by
        have c := Int32.not_lt.mp c
        have d := Int32.not_lt.mp d
        rw [show wb a b v = true from decide_eq_true ⟨Int32.le_iff_toInt_le.mp c, Int32.le_iff_toInt_le.mp d⟩]; rfl) rfl

theorem c_isOf (g : Gx) (n : Nat) (w : Wd) (i s : Nat) (hi : i ≤ 7) (hs : s < 2147483648) : CT g yX6_isOf cX6_isOf 2 (some .boolean) rm_X6_isOf n n w [.int (nI i), .int (nI s)] (Rv (.int (bz (tb s i))) w) := by
  refine CT.start [some (.int (nI i)), some (.int (nI s))] (by decide +kernel) rfl (Nat.le_of_ble_eq_true rfl) (fun x C hnm => ?_)
  refine ww_iload0 C dX6_isOf_0 ?_
  refine ww_iconst C (v := nI 0) dX6_isOf_1 (by decide) ?_
  refine ww_bipush C (v := nI 7) dX6_isOf_2 (by decide) ?_
  refine ww_cS3v C (c_within g n w _ _ _) kS_X6_73 ⟨Nat.le_of_ble_eq_true rfl, Nat.le_of_ble_eq_true rfl⟩ ⟨rfl, rfl⟩ ⟨Nat.le_of_ble_eq_true rfl, Nat.le_of_ble_eq_true rfl⟩ (Nat.le_of_ble_eq_true rfl) dX6_isOf_4 ?_
  refine ww_topi (show bz (wb (nI 0) (nI 7) (nI i)) = bz true by rw [wb_N (by decide) (by decide) (by omega), decide_eq_true (by omega)]) ?_
  refine ww_ifeqB C (tgt := 22) dX6_isOf_7 (by decide) (fun c7 => ?_) (fun c7 => ?_)
  · skip
    cases c7
  · skip
    refine ww_iload1 C dX6_isOf_10 ?_
    refine ww_iconst C (v := nI 1) dX6_isOf_11 (by decide) ?_
    refine ww_iload0 C dX6_isOf_12 ?_
    refine ww_shl1N C (by omega) dX6_isOf_13 ?_
    refine ww_iandN C dX6_isOf_14 ?_
    refine ww_ifeqN C (tb_and hs) (tgt := 22) dX6_isOf_15 (by decide) (fun c15 => ?_) (fun c15 => ?_)
    · skip
      refine ww_iconst C (v := nI 0) dX6_isOf_22 (by decide) ?_
      exact ww_rz C dX6_isOf_23 rfl ⟨Nat.le_of_ble_eq_true rfl, Nat.le_of_ble_eq_true rfl⟩ (by first | (rw [tb_0 c15]; rfl) | (rw [tb_1 c15]; rfl)) rfl
    · skip
      refine ww_iconst C (v := nI 1) dX6_isOf_18 (by decide) ?_
      refine ww_goto C (tgt := 23) dX6_isOf_19 (by decide) ?_
      exact ww_rz C dX6_isOf_23 rfl ⟨Nat.le_of_ble_eq_true rfl, Nat.le_of_ble_eq_true rfl⟩ (by first | (rw [tb_0 c15]; rfl) | (rw [tb_1 c15]; rfl)) rfl
/-- names: kinds, sizes, syllables, people, in the four cells from k on -/
def NR (w : Wd) (k : Nat) (K M S : Nat → Nat) (p : Nat) : Prop := w k = ob 4 [.ref (k + 1), .ref (k + 2), .ref (k + 3), .int (nI p)] ∧ w (k + 1) = ai 8 K ∧ w (k + 2) = ai 8 M ∧ w (k + 3) = ai 80 S ∧ p ≤ 8 ∧ (∀ i, K i ≤ 3) ∧ (∀ i, M i ≤ 10) ∧ ∀ i, S i ≤ 5
def longN (K M : Nat → Nat) (i : Nat) : Nat := if K i = 1 then (if 2 ≤ M i then M i - 1 else M i) else if K i = 2 then 2 * M i else if K i = 3 then 2 * M i else M i
def saidN (M S : Nat → Nat) (i k : Nat) : Nat := S (10 * i + if k < M i then k else k - M i)
theorem longN_le {K M : Nat → Nat} {i : Nat} (h : M i ≤ 10) : longN K M i ≤ 20 := by
  unfold longN
  repeat' split
  all_goals omega
theorem longN_2 {K M : Nat → Nat} (i : Nat) : longN K M i ≤ 2 * M i := by
  unfold longN
  repeat' split
  all_goals omega
theorem c_has (g : Gx) (n : Nat) (w : Wd) {k : Nat} {K M S : Nat → Nat} {p : Nat} (hN : NR w k K M S p) (i : Int32) : CT g yX4_has cX4_has 2 (some .boolean) rm_X4_has n n w [.ref k, .int i] (Rv (.int (bz (hb p i))) w) := by
  have hp := hN.2.2.2.2.1
  have ep : (nI p).toInt = (p : Int) := nI_toInt (by omega)
  refine CT.start [some (.ref k), some (.int i)] (by decide +kernel) rfl (Nat.le_of_ble_eq_true rfl) (fun x C hnm => ?_)
  refine ww_iload1 C dX4_has_0 ?_
  refine ww_iflt C (tgt := 16) dX4_has_1 (by decide) (fun c1 => ?_) (fun c1 => ?_)
  · skip
    refine ww_iconst C (v := nI 0) dX4_has_16 (by decide) ?_
    exact ww_rz C dX4_has_17 rfl ⟨Nat.le_of_ble_eq_true rfl, Nat.le_of_ble_eq_true rfl⟩ (by rw [show hb p i = false from decide_eq_false (by have := Int32.lt_iff_toInt_lt.mp c1; have e0 : (0 : Int32).toInt = 0 := rfl; omega)]; rfl) rfl
  · skip
    refine ww_iload1 C dX4_has_4 ?_
    refine ww_aload0 C dX4_has_5 ?_
    refine ww_getf C fl_X4_21 hN.1 rfl dX4_has_6 ?_
    refine ww_icmpge C (tgt := 16) dX4_has_9 (by decide) (fun c9 => ?_) (fun c9 => ?_)
    · skip
      refine ww_iconst C (v := nI 0) dX4_has_16 (by decide) ?_
      exact ww_rz C dX4_has_17 rfl ⟨Nat.le_of_ble_eq_true rfl, Nat.le_of_ble_eq_true rfl⟩ (by rw [show hb p i = false from decide_eq_false (by have := Int32.le_iff_toInt_le.mp c9; omega)]; rfl) rfl
    · skip
      refine ww_iconst C (v := nI 1) dX4_has_12 (by decide) ?_
      refine ww_goto C (tgt := 17) dX4_has_13 (by decide) ?_
      exact ww_rz C dX4_has_17 rfl ⟨Nat.le_of_ble_eq_true rfl, Nat.le_of_ble_eq_true rfl⟩ (by rw [show hb p i = true from decide_eq_true (by have a1 := Int32.le_iff_toInt_le.mp (Int32.not_lt.mp c1); have a9 : ¬ (nI p).toInt ≤ i.toInt := fun h => c9 (Int32.le_iff_toInt_le.mpr h); have e0 : (0 : Int32).toInt = 0 := rfl; omega)]; rfl) rfl
theorem c_sizeOf (g : Gx) (n : Nat) (w : Wd) {k : Nat} {K M S : Nat → Nat} {p : Nat} (hN : NR w k K M S p) {i : Nat} (hi : i < p) : CT g yX4_sizeOf cX4_sizeOf 2 (some .int) rm_X4_sizeOf n n w [.ref k, .int (nI i)] (Rv (.int (nI (M i))) w) := by
  refine CT.start [some (.ref k), some (.int (nI i))] (by decide +kernel) rfl (Nat.le_of_ble_eq_true rfl) (fun x C hnm => ?_)
  refine ww_aload0 C dX4_sizeOf_0 ?_
  refine ww_iload1 C dX4_sizeOf_1 ?_
  refine ww_cV1v C hN.1 rfl (c_has g n w hN _) kV_X4_31 ⟨Nat.le_of_ble_eq_true rfl, Nat.le_of_ble_eq_true rfl⟩ ⟨rfl, rfl⟩ ⟨Nat.le_of_ble_eq_true rfl, Nat.le_of_ble_eq_true rfl⟩ (Nat.le_of_ble_eq_true rfl) dX4_sizeOf_2 ?_
  refine ww_topi (show bz (hb p (nI i)) = bz true by rw [hb_N hi (by have := hN.2.2.2.2.1; omega)]) ?_
  refine ww_ifeqB C (tgt := 17) dX4_sizeOf_5 (by decide) (fun c => ?_) (fun c => ?_)
  · skip
    cases c
  · skip
    refine ww_aload0 C dX4_sizeOf_8 ?_
    refine ww_getf C fl_X4_15 hN.1 rfl dX4_sizeOf_9 ?_
    refine ww_iload1 C dX4_sizeOf_12 ?_
    refine ww_ialdN C hN.2.2.1 (by have := hN.2.2.2.2.1; omega) dX4_sizeOf_13 (kk := ?_)
    refine ww_goto C (tgt := 18) dX4_sizeOf_14 (by decide) ?_
    exact ww_ri C dX4_sizeOf_18 rfl ⟨Nat.le_of_ble_eq_true rfl, Nat.le_of_ble_eq_true rfl⟩ rfl rfl
theorem c_kindOf (g : Gx) (n : Nat) (w : Wd) {k : Nat} {K M S : Nat → Nat} {p : Nat} (hN : NR w k K M S p) {i : Nat} (hi : i < p) : CT g yX4_kindOf cX4_kindOf 2 (some .int) rm_X4_kindOf n n w [.ref k, .int (nI i)] (Rv (.int (nI (K i))) w) := by
  refine CT.start [some (.ref k), some (.int (nI i))] (by decide +kernel) rfl (Nat.le_of_ble_eq_true rfl) (fun x C hnm => ?_)
  refine ww_aload0 C dX4_kindOf_0 ?_
  refine ww_iload1 C dX4_kindOf_1 ?_
  refine ww_cV1v C hN.1 rfl (c_has g n w hN _) kV_X4_31 ⟨Nat.le_of_ble_eq_true rfl, Nat.le_of_ble_eq_true rfl⟩ ⟨rfl, rfl⟩ ⟨Nat.le_of_ble_eq_true rfl, Nat.le_of_ble_eq_true rfl⟩ (Nat.le_of_ble_eq_true rfl) dX4_kindOf_2 ?_
  refine ww_topi (show bz (hb p (nI i)) = bz true by rw [hb_N hi (by have := hN.2.2.2.2.1; omega)]) ?_
  refine ww_ifeqB C (tgt := 17) dX4_kindOf_5 (by decide) (fun c => ?_) (fun c => ?_)
  · skip
    cases c
  · skip
    refine ww_aload0 C dX4_kindOf_8 ?_
    refine ww_getf C fl_X4_9 hN.1 rfl dX4_kindOf_9 ?_
    refine ww_iload1 C dX4_kindOf_12 ?_
    refine ww_ialdN C hN.2.1 (by have := hN.2.2.2.2.1; omega) dX4_kindOf_13 (kk := ?_)
    refine ww_goto C (tgt := 18) dX4_kindOf_14 (by decide) ?_
    exact ww_ri C dX4_kindOf_18 rfl ⟨Nat.le_of_ble_eq_true rfl, Nat.le_of_ble_eq_true rfl⟩ rfl rfl
theorem c_longOf (g : Gx) (n : Nat) (w : Wd) {k : Nat} {K M S : Nat → Nat} {p : Nat} (hN : NR w k K M S p) {i : Nat} (hi : i < p) : CT g yX4_longOf cX4_longOf 3 (some .int) rm_X4_longOf n n w [.ref k, .int (nI i)] (Rv (.int (nI (longN K M i))) w) := by
  refine CT.start [some (.ref k), some (.int (nI i)), none] (by decide +kernel) rfl (Nat.le_of_ble_eq_true rfl) (fun x C hnm => ?_)
  refine ww_aload0 C dX4_longOf_0 ?_
  refine ww_iload1 C dX4_longOf_1 ?_
  refine ww_cV1v C hN.1 rfl (c_has g n w hN _) kV_X4_31 ⟨Nat.le_of_ble_eq_true rfl, Nat.le_of_ble_eq_true rfl⟩ ⟨rfl, rfl⟩ ⟨Nat.le_of_ble_eq_true rfl, Nat.le_of_ble_eq_true rfl⟩ (Nat.le_of_ble_eq_true rfl) dX4_longOf_2 ?_
  refine ww_topi (show bz (hb p (nI i)) = bz true by rw [hb_N hi (by have := hN.2.2.2.2.1; omega)]) ?_
  refine ww_ifneB C (tgt := 10) dX4_longOf_5 (by decide) (fun c5 => ?_) (fun c5 => ?_)
  · skip
    refine ww_aload0 C dX4_longOf_10 ?_
    refine ww_getf C fl_X4_15 hN.1 rfl dX4_longOf_11 ?_
    refine ww_iload1 C dX4_longOf_14 ?_
    refine ww_ialdN C hN.2.2.1 (by have := hN.2.2.2.2.1; omega) dX4_longOf_15 (kk := ?_)
    refine ww_istore2 C dX4_longOf_16 (by decide) rfl ?_
    refine ww_aload0 C dX4_longOf_17 ?_
    refine ww_getf C fl_X4_9 hN.1 rfl dX4_longOf_18 ?_
    refine ww_iload1 C dX4_longOf_21 ?_
    refine ww_ialdN C hN.2.1 (by have := hN.2.2.2.2.1; omega) dX4_longOf_22 (kk := ?_)
    have hk3 := hN.2.2.2.2.2.1 i
    rcases (show K i = 0 ∨ K i = 1 ∨ K i = 2 ∨ K i = 3 by omega) with q | q | q | q
    · rw [q]
      refine ww_tabOut C (tgt := 65) dX4_longOf_23 (by decide) (by decide) ?_
      refine ww_iload2 C dX4_longOf_65 ?_
      exact ww_ri C dX4_longOf_66 rfl ⟨Nat.le_of_ble_eq_true rfl, Nat.le_of_ble_eq_true rfl⟩ (by congr 1; unfold longN; (repeat' split) <;> omega) rfl
    · rw [q]
      refine ww_tabIn C (tgt := 48) dX4_longOf_23 (by decide) (by decide) rfl (by decide) ?_
      refine ww_iload2 C dX4_longOf_48 ?_
      refine ww_iconst C (v := nI 2) dX4_longOf_49 (by decide) ?_
      refine ww_icmpltN C (by have := hN.2.2.2.2.2.2.1 i; omega) (tgt := 59) dX4_longOf_50 (by decide) (fun c50 => ?_) (fun c50 => ?_)
      · skip
        refine ww_iload2 C dX4_longOf_59 ?_
        exact ww_ri C dX4_longOf_60 rfl ⟨Nat.le_of_ble_eq_true rfl, Nat.le_of_ble_eq_true rfl⟩ (by congr 1; unfold longN; (repeat' split) <;> omega) rfl
      · skip
        refine ww_iload2 C dX4_longOf_53 ?_
        refine ww_iconst C (v := nI 1) dX4_longOf_54 (by decide) ?_
        refine ww_isubN C (by omega) dX4_longOf_55 ?_
        refine ww_goto C (tgt := 60) dX4_longOf_56 (by decide) ?_
        exact ww_ri C dX4_longOf_60 rfl ⟨Nat.le_of_ble_eq_true rfl, Nat.le_of_ble_eq_true rfl⟩ (by congr 1; unfold longN; (repeat' split) <;> omega) rfl
    · rw [q]
      refine ww_tabIn C (tgt := 61) dX4_longOf_23 (by decide) (by decide) rfl (by decide) ?_
      refine ww_iconst C (v := nI 2) dX4_longOf_61 (by decide) ?_
      refine ww_iload2 C dX4_longOf_62 ?_
      refine ww_imulN C dX4_longOf_63 ?_
      exact ww_ri C dX4_longOf_64 rfl ⟨Nat.le_of_ble_eq_true rfl, Nat.le_of_ble_eq_true rfl⟩ (by congr 1; unfold longN; (repeat' split) <;> omega) rfl
    · rw [q]
      refine ww_tabIn C (tgt := 61) dX4_longOf_23 (by decide) (by decide) rfl (by decide) ?_
      refine ww_iconst C (v := nI 2) dX4_longOf_61 (by decide) ?_
      refine ww_iload2 C dX4_longOf_62 ?_
      refine ww_imulN C dX4_longOf_63 ?_
      exact ww_ri C dX4_longOf_64 rfl ⟨Nat.le_of_ble_eq_true rfl, Nat.le_of_ble_eq_true rfl⟩ (by congr 1; unfold longN; (repeat' split) <;> omega) rfl
  · skip
    cases c5
theorem c_syllableAt (g : Gx) (n : Nat) (w : Wd) {k : Nat} {K M S : Nat → Nat} {p : Nat} (hN : NR w k K M S p) {i j : Nat} (hi : i < p) (hj : j < M i) : CT g yX4_syllableAt cX4_syllableAt 3 (some .int) rm_X4_syllableAt n n w [.ref k, .int (nI i), .int (nI j)] (Rv (.int (nI (S (10 * i + j)))) w) := by
  have hM := hN.2.2.2.2.2.2.1 i
  have hp := hN.2.2.2.2.1
  refine CT.start [some (.ref k), some (.int (nI i)), some (.int (nI j))] (by decide +kernel) rfl (Nat.le_of_ble_eq_true rfl) (fun x C hnm => ?_)
  refine ww_aload0 C dX4_syllableAt_0 ?_
  refine ww_iload1 C dX4_syllableAt_1 ?_
  refine ww_cV1v C hN.1 rfl (c_has g n w hN _) kV_X4_31 ⟨Nat.le_of_ble_eq_true rfl, Nat.le_of_ble_eq_true rfl⟩ ⟨rfl, rfl⟩ ⟨Nat.le_of_ble_eq_true rfl, Nat.le_of_ble_eq_true rfl⟩ (Nat.le_of_ble_eq_true rfl) dX4_syllableAt_2 ?_
  refine ww_topi (show bz (hb p (nI i)) = bz true by rw [hb_N hi (by have := hN.2.2.2.2.1; omega)]) ?_
  refine ww_ifeqB C (tgt := 38) dX4_syllableAt_5 (by decide) (fun c5 => ?_) (fun c5 => ?_)
  · skip
    cases c5
  · skip
    refine ww_iload2 C dX4_syllableAt_8 ?_
    refine ww_iconst C (v := nI 0) dX4_syllableAt_9 (by decide) ?_
    refine ww_aload0 C dX4_syllableAt_10 ?_
    refine ww_getf C fl_X4_15 hN.1 rfl dX4_syllableAt_11 ?_
    refine ww_iload1 C dX4_syllableAt_14 ?_
    refine ww_ialdN C hN.2.2.1 (by omega) dX4_syllableAt_15 (kk := ?_)
    refine ww_iconst C (v := nI 1) dX4_syllableAt_16 (by decide) ?_
    refine ww_isub C dX4_syllableAt_17 ?_
    refine ww_cSN3v C (c_within g n w _ _ _) kSN_X4_48 ⟨Nat.le_of_ble_eq_true rfl, Nat.le_of_ble_eq_true rfl⟩ ⟨rfl, rfl⟩ ⟨Nat.le_of_ble_eq_true rfl, Nat.le_of_ble_eq_true rfl⟩ (Nat.le_of_ble_eq_true rfl) dX4_syllableAt_18 ?_
    refine ww_topi (show bz _ = bz true by rw [wb_P (by omega), hb_N hj (by omega)]) ?_
    refine ww_ifeqB C (tgt := 38) dX4_syllableAt_21 (by decide) (fun c => ?_) (fun c => ?_)
    · skip
      cases c
    · skip
      refine ww_aload0 C dX4_syllableAt_24 ?_
      refine ww_getf C fl_X4_18 hN.1 rfl dX4_syllableAt_25 ?_
      refine ww_iload1 C dX4_syllableAt_28 ?_
      refine ww_bipush C (v := nI 10) dX4_syllableAt_29 (by decide) ?_
      refine ww_imulN C dX4_syllableAt_31 ?_
      refine ww_iload2 C dX4_syllableAt_32 ?_
      refine ww_iaddN C dX4_syllableAt_33 ?_
      refine ww_ialdN C hN.2.2.2.1 (by omega) dX4_syllableAt_34 (kk := ?_)
      refine ww_goto C (tgt := 40) dX4_syllableAt_35 (by decide) ?_
      exact ww_ri C dX4_syllableAt_40 rfl ⟨Nat.le_of_ble_eq_true rfl, Nat.le_of_ble_eq_true rfl⟩ (by rw [Nat.mul_comm i 10]) rfl
theorem c_saidAt (g : Gx) (n : Nat) (w : Wd) {k : Nat} {K M S : Nat → Nat} {p : Nat} (hN : NR w k K M S p) {i j : Nat} (hi : i < p) (hj : j < longN K M i) : CT g yX4_saidAt cX4_saidAt 4 (some .int) rm_X4_saidAt n n w [.ref k, .int (nI i), .int (nI j)] (Rv (.int (nI (saidN M S i j))) w) := by
  have hM := hN.2.2.2.2.2.2.1 i
  have hp := hN.2.2.2.2.1
  have hL := longN_le (K := K) hM
  have hL2 := longN_2 (K := K) (M := M) i
  refine CT.start [some (.ref k), some (.int (nI i)), some (.int (nI j)), none] (by decide +kernel) rfl (Nat.le_of_ble_eq_true rfl) (fun x C hnm => ?_)
  refine ww_iload2 C dX4_saidAt_0 ?_
  refine ww_iconst C (v := nI 0) dX4_saidAt_1 (by decide) ?_
  refine ww_aload0 C dX4_saidAt_2 ?_
  refine ww_iload1 C dX4_saidAt_3 ?_
  refine ww_cV1v C hN.1 rfl (c_longOf g n w hN hi) kV_X4_39 ⟨Nat.le_of_ble_eq_true rfl, Nat.le_of_ble_eq_true rfl⟩ ⟨rfl, rfl⟩ ⟨Nat.le_of_ble_eq_true rfl, Nat.le_of_ble_eq_true rfl⟩ (Nat.le_of_ble_eq_true rfl) dX4_saidAt_4 ?_
  refine ww_iconst C (v := nI 1) dX4_saidAt_7 (by decide) ?_
  refine ww_isub C dX4_saidAt_8 ?_
  refine ww_cSN3v C (c_within g n w _ _ _) kSN_X4_48 ⟨Nat.le_of_ble_eq_true rfl, Nat.le_of_ble_eq_true rfl⟩ ⟨rfl, rfl⟩ ⟨Nat.le_of_ble_eq_true rfl, Nat.le_of_ble_eq_true rfl⟩ (Nat.le_of_ble_eq_true rfl) dX4_saidAt_9 ?_
  refine ww_topi (show bz _ = bz true by rw [wb_P (by omega), hb_N hj (by omega)]) ?_
  refine ww_ifneB C (tgt := 18) dX4_saidAt_12 (by decide) (fun c => ?_) (fun c => ?_)
  · skip
    refine ww_aload0 C dX4_saidAt_18 ?_
    refine ww_iload1 C dX4_saidAt_19 ?_
    refine ww_cV1v C hN.1 rfl (c_sizeOf g n w hN hi) kV_X4_52 ⟨Nat.le_of_ble_eq_true rfl, Nat.le_of_ble_eq_true rfl⟩ ⟨rfl, rfl⟩ ⟨Nat.le_of_ble_eq_true rfl, Nat.le_of_ble_eq_true rfl⟩ (Nat.le_of_ble_eq_true rfl) dX4_saidAt_20 ?_
    refine ww_istore3 C dX4_saidAt_23 (by decide) rfl ?_
    refine ww_aload0 C dX4_saidAt_24 ?_
    refine ww_iload1 C dX4_saidAt_25 ?_
    refine ww_iload2 C dX4_saidAt_26 ?_
    refine ww_iload3 C dX4_saidAt_27 ?_
    refine ww_icmpgeN C (by omega) (tgt := 35) dX4_saidAt_28 (by decide) (fun c28 => ?_) (fun c28 => ?_)
    · skip
      refine ww_iload2 C dX4_saidAt_35 ?_
      refine ww_iload3 C dX4_saidAt_36 ?_
      refine ww_isubN C (by omega) dX4_saidAt_37 ?_
      refine ww_cV2v C hN.1 rfl (c_syllableAt g n w hN hi (by omega)) kV_X4_55 ⟨Nat.le_of_ble_eq_true rfl, Nat.le_of_ble_eq_true rfl⟩ ⟨rfl, rfl⟩ ⟨Nat.le_of_ble_eq_true rfl, Nat.le_of_ble_eq_true rfl⟩ (Nat.le_of_ble_eq_true rfl) dX4_saidAt_38 ?_
      exact ww_ri C dX4_saidAt_41 rfl ⟨Nat.le_of_ble_eq_true rfl, Nat.le_of_ble_eq_true rfl⟩ (by congr 1; unfold saidN; split <;> first | rfl | omega) rfl
    · skip
      refine ww_iload2 C dX4_saidAt_31 ?_
      refine ww_goto C (tgt := 38) dX4_saidAt_32 (by decide) ?_
      refine ww_cV2v C hN.1 rfl (c_syllableAt g n w hN hi (by omega)) kV_X4_55 ⟨Nat.le_of_ble_eq_true rfl, Nat.le_of_ble_eq_true rfl⟩ ⟨rfl, rfl⟩ ⟨Nat.le_of_ble_eq_true rfl, Nat.le_of_ble_eq_true rfl⟩ (Nat.le_of_ble_eq_true rfl) dX4_saidAt_38 ?_
      exact ww_ri C dX4_saidAt_41 rfl ⟨Nat.le_of_ble_eq_true rfl, Nat.le_of_ble_eq_true rfl⟩ (by congr 1; unfold saidN; split <;> first | rfl | omega) rfl
  · skip
    cases c
