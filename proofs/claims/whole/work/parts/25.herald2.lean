theorem ww_ialdR {g : Gx} {x : Cx} {cc : ByteArray} {nL : Nat} {own : String} {rt : Option FieldType} {rm : Room} {n' : Nat} {Post : Option Value → Wd → Prop} {cs ss n : Nat} {w : Wd} {pc : Nat} {L : List (Option Value)} {st : List Value} (C : Ck g x cc nL own rt rm n' Post) {k m0 i : Nat} {K : Nat → Int32} (hk : w k = ar 0 m0 K) (hi : i < m0) (hd : decode cc pc = .ok (.iaload, 1)) (hm : m0 ≤ 100000 := by decide) (kk : WW g x nL cs ss n w (pc + 1) L (.int (K i) :: st)) : WW g x nL cs ss n w pc L (.int (nI i) :: .ref k :: st) := ww_iald C hk (vi_N hi hm) hd (by rw [cl_N hi hm]; exact kk)
theorem ww_iastR {g : Gx} {x : Cx} {cc : ByteArray} {nL : Nat} {own : String} {rt : Option FieldType} {rm : Room} {n' : Nat} {Post : Option Value → Wd → Prop} {cs ss n : Nat} {w : Wd} {pc : Nat} {L : List (Option Value)} {st : List Value} (C : Ck g x cc nL own rt rm n' Post) {k m0 i : Nat} {z : Int32} {K : Nat → Int32} (hk : w k = ar 0 m0 K) (hi : i < m0) (hd : decode cc pc = .ok (.iastore, 1)) (hm : m0 ≤ 100000 := by decide) (kk : ∀ w1, w1 = va_up w k (ar 0 m0 (va_up K i z)) → WW g x nL cs ss n w1 (pc + 1) L st) : WW g x nL cs ss n w pc L (.int z :: .int (nI i) :: .ref k :: st) := ww_iast C hk (vi_N hi hm) hd (by rw [cl_N hi hm]; exact kk _ rfl)
theorem bz_N (b : Bool) : bz b = nI (if b = true then 1 else 0) := by cases b <;> rfl
/-- may i be the last of s, with time tm -/
def cbN (A : Nat → Nat) (tm : Nat) (Pa : Nat → Nat) (s l i : Nat) : Bool := tb s i && (decide (A (s ^^^ 2 ^ i) = 1) && decide (tm + Pa i ≤ l))
theorem x256 {s i : Nat} (hs : s < 256) (hi : i < 8) : s ^^^ 2 ^ i < 256 := xor_lt (n := 8) hs hi
theorem o256 {s i : Nat} (hs : s < 256) (hi : i < 8) : s ||| 2 ^ i < 256 := or_lt (n := 8) hs hi

theorem c_someone (g : Gx) (n : Nat) (w : Wd) {k pe b v od : Nat} {Lo Be Pa Ra Ti Wk Hi Odr : Nat → Nat} {Pk : Nat → Int32} (hG : GR w k pe b v Lo Be Pa Ra Ti Wk Hi Pk Odr od) {s l : Nat} (hs : s < 256) (hl : l ≤ 999) : CT g yX1_someoneCanBeLast cX1_someoneCanBeLast 4 (some .boolean) rm_X1_someoneCanBeLast n n w [.ref k, .int (nI s), .int (nI l)] (Rv (.int (bz (anyN (cbN Wk (Ti s) Pa s l) pe))) w) := by
  have hzz := hG.2.2.2.2.2.2.2.2.2.2.2.2.2.2.2.2.2.2
  refine CT.start [some (.ref k), some (.int (nI s)), some (.int (nI l)), none] (by decide +kernel) rfl (Nat.le_of_ble_eq_true rfl) (fun x C hnm => ?_)
  refine ww_iconst C (v := nI 0) dX1_someoneCanBeLast_0 (by decide) ?_
  refine ww_istore3 C dX1_someoneCanBeLast_1 (by decide) rfl ?_
  have lp2 : ∀ (m : Nat) (i : Nat), i ≤ pe → pe < i + m → (∀ j, j < i → cbN Wk (Ti s) Pa s l j = false) → WW g x 4 0 0 n w 2 [some (.ref k), some (.int (nI s)), some (.int (nI l)), some (.int (nI i))] [] := by
    intro m
    induction m with
    | zero =>
      intro i hi0 hm ha
      exact absurd hm (by omega)
    | succ m ih2 =>
      intro i hi0 hm ha
      refine ww_iload3 C dX1_someoneCanBeLast_2 ?_
      refine ww_aload0 C dX1_someoneCanBeLast_3 ?_
      refine ww_getf C fl_X1_9 hG.1 rfl dX1_someoneCanBeLast_4 ?_
      refine ww_icmpgeN C (by omega) (tgt := 56) dX1_someoneCanBeLast_7 (by decide) (fun c7 => ?_) (fun c7 => ?_)
      · skip
        have e : pe = i := by omega
        subst e
        refine ww_iconst C (v := nI 0) dX1_someoneCanBeLast_56 (by decide) ?_
        exact ww_rz C dX1_someoneCanBeLast_57 rfl ⟨Nat.le_of_ble_eq_true rfl, Nat.le_of_ble_eq_true rfl⟩ (by rw [anyN_f ha]; rfl) rfl
      · skip
        refine ww_iload3 C dX1_someoneCanBeLast_10 ?_
        refine ww_iload1 C dX1_someoneCanBeLast_11 ?_
        refine ww_cSN2v C (c_isOf g n w _ _ (by omega) (by omega)) kSN_X1_84 ⟨Nat.le_of_ble_eq_true rfl, Nat.le_of_ble_eq_true rfl⟩ ⟨rfl, rfl⟩ ⟨Nat.le_of_ble_eq_true rfl, Nat.le_of_ble_eq_true rfl⟩ (Nat.le_of_ble_eq_true rfl) dX1_someoneCanBeLast_12 ?_
        refine ww_ifeqB C (tgt := 50) dX1_someoneCanBeLast_15 (by decide) (fun c15 => ?_) (fun c15 => ?_)
        · skip
          refine ww_iincN3 C dX1_someoneCanBeLast_50 (by decide) rfl ?_
          refine ww_goto C (tgt := 2) dX1_someoneCanBeLast_53 (by decide) ?_
          exact ih2 (i + 1) (by omega) (by omega) (lt_s ha (by unfold cbN; rw [c15]; rfl))
        · skip
          refine ww_aload0 C dX1_someoneCanBeLast_18 ?_
          refine ww_getf C fl_X1_37 hG.1 rfl dX1_someoneCanBeLast_19 ?_
          refine ww_iload1 C dX1_someoneCanBeLast_22 ?_
          refine ww_iconst C (v := nI 1) dX1_someoneCanBeLast_23 (by decide) ?_
          refine ww_iload3 C dX1_someoneCanBeLast_24 ?_
          refine ww_shl1N C (by omega) dX1_someoneCanBeLast_25 ?_
          refine ww_ixorN C dX1_someoneCanBeLast_26 ?_
          refine ww_zaldN C hG.2.2.2.2.2.2.1 (x256 hs (by omega)) dX1_someoneCanBeLast_27 (kk := ?_)
          refine ww_ifeqN C (by have := hG.2.2.2.2.2.2.2.2.2.2.2.2.2.2.2.1 (s ^^^ 2 ^ i); omega) (tgt := 50) dX1_someoneCanBeLast_28 (by decide) (fun c28 => ?_) (fun c28 => ?_)
          · skip
            refine ww_iincN3 C dX1_someoneCanBeLast_50 (by decide) rfl ?_
            refine ww_goto C (tgt := 2) dX1_someoneCanBeLast_53 (by decide) ?_
            exact ih2 (i + 1) (by omega) (by omega) (lt_s ha (by unfold cbN; rw [decide_eq_false (show ¬ Wk (s ^^^ 2 ^ i) = 1 by omega), Bool.false_and, Bool.and_false]))
          · skip
            refine ww_aload0 C dX1_someoneCanBeLast_31 ?_
            refine ww_getf C fl_X1_34 hG.1 rfl dX1_someoneCanBeLast_32 ?_
            refine ww_iload1 C dX1_someoneCanBeLast_35 ?_
            refine ww_ialdN C hG.2.2.2.2.2.1 (by omega) dX1_someoneCanBeLast_36 (kk := ?_)
            refine ww_aload0 C dX1_someoneCanBeLast_37 ?_
            refine ww_getf C fl_X1_28 hG.1 rfl dX1_someoneCanBeLast_38 ?_
            refine ww_iload3 C dX1_someoneCanBeLast_41 ?_
            refine ww_ialdN C hG.2.2.2.1 (by omega) dX1_someoneCanBeLast_42 (kk := ?_)
            refine ww_iaddN C dX1_someoneCanBeLast_43 ?_
            refine ww_iload2 C dX1_someoneCanBeLast_44 ?_
            refine ww_icmpgtN C (by have := hG.2.2.2.2.2.2.2.2.2.2.2.2.2.2.1 s; have := hG.2.2.2.2.2.2.2.2.2.2.2.2.1 i; omega) (tgt := 50) dX1_someoneCanBeLast_45 (by decide) (fun c45 => ?_) (fun c45 => ?_)
            · skip
              refine ww_iincN3 C dX1_someoneCanBeLast_50 (by decide) rfl ?_
              refine ww_goto C (tgt := 2) dX1_someoneCanBeLast_53 (by decide) ?_
              exact ih2 (i + 1) (by omega) (by omega) (lt_s ha (by unfold cbN; rw [decide_eq_false (show ¬ Ti s + Pa i ≤ l by omega), Bool.and_false, Bool.and_false]))
            · skip
              refine ww_iconst C (v := nI 1) dX1_someoneCanBeLast_48 (by decide) ?_
              exact ww_rz C dX1_someoneCanBeLast_49 rfl ⟨Nat.le_of_ble_eq_true rfl, Nat.le_of_ble_eq_true rfl⟩ (by rw [anyN_t (i := i) c7 (by unfold cbN; rw [c15, decide_eq_true (show Wk (s ^^^ 2 ^ i) = 1 by have := hG.2.2.2.2.2.2.2.2.2.2.2.2.2.2.2.1 (s ^^^ 2 ^ i); omega), decide_eq_true c45]; rfl)]; rfl) rfl
  exact lp2 (pe + 1) 0 (by omega) (by omega) (fun j hj => absurd hj (by omega))
def savF (p : Nat) (Pa : Nat → Nat) (cr : Nat → Nat) (l : Nat) (A : Nat → Nat) (s : Nat) : Nat := if s = 0 then 1 else if 256 ≤ s then 0 else if anyN (cbN A (cr s) Pa s l) p = true then 1 else 0
theorem savF_loc {p : Nat} (hp : p ≤ 8) (Pa cr : Nat → Nat) (l : Nat) : locF (savF p Pa cr l) := by
  intro A B s h
  unfold savF
  by_cases c : s = 0
  · rw [if_pos c, if_pos c]
  · rw [if_neg c, if_neg c]
    by_cases c2 : 256 ≤ s
    · rw [if_pos c2, if_pos c2]
    · rw [if_neg c2, if_neg c2]
      have e : anyN (cbN A (cr s) Pa s l) p = anyN (cbN B (cr s) Pa s l) p := anyN_c (fun i hi => by
        unfold cbN
        cases t : tb s i with
        | false => rfl
        | true => rw [h _ (xor_bit (by omega) (by omega) t)])
      rw [e]
/-- the best set below n: the first of the most persons -/
def bsN (A : Nat → Nat) : Nat → Nat
  | 0 => 0
  | n + 1 => if A n = 1 ∧ bcN (bsN A n) < bcN n then n else bsN A n
theorem bsN_lt (A : Nat → Nat) : ∀ {n : Nat}, 0 < n → bsN A n < n
  | 0, h => absurd h (by omega)
  | n + 1, _ => by
    unfold bsN
    split
    · omega
    · rcases Nat.eq_zero_or_pos n with h | h
      · subst h; exact Nat.zero_lt_one
      · have := bsN_lt A h; omega
theorem bsN_c {A B : Nat → Nat} : ∀ {n : Nat}, (∀ j, j < n → A j = B j) → bsN A n = bsN B n
  | 0, _ => rfl
  | n + 1, h => by
    unfold bsN
    rw [bsN_c (fun j hj => h j (by omega)), h n (by omega)]
theorem tb_00 (i : Nat) : tb 0 i = false := Nat.zero_testBit i
theorem sumN_00 : ∀ n, sumN (fun _ => 0) n = 0
  | 0 => rfl
  | n + 1 => by show sumN (fun _ => 0) n + 0 = 0; rw [sumN_00 n]
theorem cryN_0 (p : Nat) (Lo Be : Nat → Nat) (b v : Nat) : cryN p Lo Be b v 0 = 0 := by
  have e : ∀ f : Nat → Nat, (fun i => if tb 0 i = true then f i else 0) = fun _ => 0 := fun f => by funext i; rw [if_neg (by rw [tb_00]; decide)]
  unfold cryN
  rw [e, e, sumN_00, if_pos rfl]
theorem c_mostSaved (g : Gx) (n : Nat) (w : Wd) {k pe b v od : Nat} {Lo Be Pa Ra Ti Wk Hi Odr : Nat → Nat} {Pk : Nat → Int32} (hG : GR w k pe b v Lo Be Pa Ra Ti Wk Hi Pk Odr od) {l : Nat} (hb1 : 1 ≤ b) (hl : l ≤ 999) : CT g yX1_mostSaved cX1_mostSaved 4 (some .int) rm_X1_mostSaved n n w [.ref k, .int (nI l)] (Rq (.int (nI (bsN (cov (savF pe Pa (cryN pe Lo Be b v) l)) (2 ^ pe)))) (fun w1 => ∃ Ti2 Wk2, GR w1 k pe b v Lo Be Pa Ra Ti2 Wk2 Hi Pk Odr od ∧ (∀ j, j < 2 ^ pe → Ti2 j = (cryN pe Lo Be b v) j) ∧ fr w w1 k (k + 10))) := by
  have hf : fr w w k (k + 10) := fr.rf
  have hzz := hG.2.2.2.2.2.2.2.2.2.2.2.2.2.2.2.2.2.2
  refine CT.start [some (.ref k), some (.int (nI l)), none, none] (by decide +kernel) rfl (Nat.le_of_ble_eq_true rfl) (fun x C hnm => ?_)
  refine ww_iconst C (v := nI 0) dX1_mostSaved_0 (by decide) ?_
  refine ww_istore2 C dX1_mostSaved_1 (by decide) rfl ?_
  refine ww_aload0 C dX1_mostSaved_2 ?_
  refine ww_getf C fl_X1_34 hG.1 rfl dX1_mostSaved_3 ?_
  refine ww_iconst C (v := nI 0) dX1_mostSaved_6 (by decide) ?_
  refine ww_iconst C (v := nI 0) dX1_mostSaved_7 (by decide) ?_
  refine ww_iastN C hG.2.2.2.2.2.1 (by omega) dX1_mostSaved_8 (kk := fun w1 hw1 => ?_)
  have hf : fr w w1 k (k + 10) := hf.tr (fr.up hw1 (by omega) (by omega))
  have hG := hG.setTi hw1 (up_le hG.2.2.2.2.2.2.2.2.2.2.2.2.2.2.1 (by omega))
  refine ww_aload0 C dX1_mostSaved_9 ?_
  refine ww_getf C fl_X1_37 hG.1 rfl dX1_mostSaved_10 ?_
  refine ww_iconst C (v := nI 0) dX1_mostSaved_13 (by decide) ?_
  refine ww_iconst C (v := nI 1) dX1_mostSaved_14 (by decide) ?_
  refine ww_zastN C hG.2.2.2.2.2.2.1 (by omega) (by omega) dX1_mostSaved_15 (kk := fun w2 hw2 => ?_)
  have hf : fr w w2 k (k + 10) := hf.tr (fr.up hw2 (by omega) (by omega))
  have hG := hG.setWk hw2 (up_le hG.2.2.2.2.2.2.2.2.2.2.2.2.2.2.2.1 (by first | omega | (split <;> omega)))
  refine ww_iconst C (v := nI 1) dX1_mostSaved_16 (by decide) ?_
  refine ww_istore3 C dX1_mostSaved_17 (by decide) rfl ?_
  have lp18 : ∀ (m : Nat) (s bb : Nat) (Ti2 Wk2 : Nat → Nat) (u : Wd), 1 ≤ s → s ≤ 2 ^ pe → 2 ^ pe < s + m → (∀ j, j < s → Ti2 j = (cryN pe Lo Be b v) j) → (∀ j, j < s → Wk2 j = (cov (savF pe Pa (cryN pe Lo Be b v) l)) j) → bb = bsN (cov (savF pe Pa (cryN pe Lo Be b v) l)) s → GR u k pe b v Lo Be Pa Ra Ti2 Wk2 Hi Pk Odr od → fr w u k (k + 10) → WW g x 4 0 0 n u 18 [some (.ref k), some (.int (nI l)), some (.int (nI bb)), some (.int (nI s))] [] := by
    intro m
    induction m with
    | zero =>
      intro s bb Ti2 Wk2 u hs1 hs2 hm hT hW hb hG hf
      exact absurd hm (by omega)
    | succ m ih18 =>
      intro s bb Ti2 Wk2 u hs1 hs2 hm hT hW hb hG hf
      have h256 := p256 hzz.1
      have hbl : bb < s := by rw [hb]; exact bsN_lt _ (by omega)
      refine ww_iload3 C dX1_mostSaved_18 ?_
      refine ww_iconst C (v := nI 1) dX1_mostSaved_19 (by decide) ?_
      refine ww_aload0 C dX1_mostSaved_20 ?_
      refine ww_getf C fl_X1_9 hG.1 rfl dX1_mostSaved_21 ?_
      refine ww_shl1N C (by omega) dX1_mostSaved_24 ?_
      refine ww_icmpgeN C (by omega) (tgt := 79) dX1_mostSaved_25 (by decide) (fun c25 => ?_) (fun c25 => ?_)
      · skip
        have e : s = 2 ^ pe := by omega
        subst e
        refine ww_iload2 C dX1_mostSaved_79 ?_
        exact ww_riq C dX1_mostSaved_80 rfl ⟨Nat.le_of_ble_eq_true rfl, Nat.le_of_ble_eq_true rfl⟩ (by rw [hb]) ⟨Ti2, Wk2, hG, hT, hf⟩
      · skip
        refine ww_aload0 C dX1_mostSaved_28 ?_
        refine ww_getf C fl_X1_34 hG.1 rfl dX1_mostSaved_29 ?_
        refine ww_iload3 C dX1_mostSaved_32 ?_
        refine ww_aload0 C dX1_mostSaved_33 ?_
        refine ww_iload3 C dX1_mostSaved_34 ?_
        have hcr := cryN_le (s := s) hG.2.2.2.2.2.2.2.2.2.2.1 hG.2.2.2.2.2.2.2.2.2.2.2.1 hzz.1 hzz.2.1 hb1 hzz.2.2.1
        refine ww_cV1v C hG.1 rfl (c_beatsToCall g n u hG hb1 (by omega)) kV_X1_91 ⟨Nat.le_of_ble_eq_true rfl, Nat.le_of_ble_eq_true rfl⟩ ⟨rfl, rfl⟩ ⟨Nat.le_of_ble_eq_true rfl, Nat.le_of_ble_eq_true rfl⟩ (Nat.le_of_ble_eq_true rfl) dX1_mostSaved_35 ?_
        refine ww_iastN C hG.2.2.2.2.2.1 (by omega) dX1_mostSaved_38 (kk := fun w3 hw3 => ?_)
        have hf : fr w w3 k (k + 10) := hf.tr (fr.up hw3 (by omega) (by omega))
        have hG := hG.setTi hw3 (up_le hG.2.2.2.2.2.2.2.2.2.2.2.2.2.2.1 (by omega))
        refine ww_aload0 C dX1_mostSaved_39 ?_
        refine ww_getf C fl_X1_37 hG.1 rfl dX1_mostSaved_40 ?_
        refine ww_iload3 C dX1_mostSaved_43 ?_
        refine ww_aload0 C dX1_mostSaved_44 ?_
        refine ww_iload3 C dX1_mostSaved_45 ?_
        refine ww_iload1 C dX1_mostSaved_46 ?_
        refine ww_cV2v C hG.1 rfl (c_someone g n w3 hG (by omega) hl) kV_X1_94 ⟨Nat.le_of_ble_eq_true rfl, Nat.le_of_ble_eq_true rfl⟩ ⟨rfl, rfl⟩ ⟨Nat.le_of_ble_eq_true rfl, Nat.le_of_ble_eq_true rfl⟩ (Nat.le_of_ble_eq_true rfl) dX1_mostSaved_47 ?_
        refine ww_topi (bz_N _) ?_
        refine ww_zastN C hG.2.2.2.2.2.2.1 (by omega) (by split <;> omega) dX1_mostSaved_50 (kk := fun w4 hw4 => ?_)
        have hf : fr w w4 k (k + 10) := hf.tr (fr.up hw4 (by omega) (by omega))
        have hG := hG.setWk hw4 (up_le hG.2.2.2.2.2.2.2.2.2.2.2.2.2.2.2.1 (by first | omega | (split <;> omega)))
        have hv1 : (if anyN (cbN Wk2 (va_up Ti2 s (cryN pe Lo Be b v s) s) Pa s l) pe = true then 1 else 0) = (cov (savF pe Pa (cryN pe Lo Be b v) l)) s := by
          rw [va_upd_self, ← cov_eq (savF_loc hzz.1 Pa (cryN pe Lo Be b v) l) hW]
          unfold savF
          rw [if_neg (show ¬ s = 0 by omega), if_neg (show ¬ 256 ≤ s by omega)]
        rw [hv1] at hG
        have hT1 : ∀ j, j < s + 1 → va_up Ti2 s (cryN pe Lo Be b v s) j = (cryN pe Lo Be b v) j := lt_s (fun j hj => by rw [va_upd_ne _ _ (by omega)]; exact hT j hj) (va_upd_self _ _ _)
        have hW1 : ∀ j, j < s + 1 → va_up Wk2 s ((cov (savF pe Pa (cryN pe Lo Be b v) l)) s) j = (cov (savF pe Pa (cryN pe Lo Be b v) l)) j := lt_s (fun j hj => by rw [va_upd_ne _ _ (by omega)]; exact hW j hj) (va_upd_self _ _ _)
        refine ww_aload0 C dX1_mostSaved_51 ?_
        refine ww_getf C fl_X1_37 hG.1 rfl dX1_mostSaved_52 ?_
        refine ww_iload3 C dX1_mostSaved_55 ?_
        refine ww_zaldN C hG.2.2.2.2.2.2.1 (by omega) dX1_mostSaved_56 (kk := ?_)
        refine ww_topi (show nI (va_up Wk2 s ((cov (savF pe Pa (cryN pe Lo Be b v) l)) s) s) = nI ((cov (savF pe Pa (cryN pe Lo Be b v) l)) s) by rw [va_upd_self]) ?_
        refine ww_ifeqN C (by have := hG.2.2.2.2.2.2.2.2.2.2.2.2.2.2.2.1 s; rw [hW1 s (by omega)] at this; omega) (tgt := 73) dX1_mostSaved_57 (by decide) (fun c57 => ?_) (fun c57 => ?_)
        · skip
          refine ww_iincN3 C dX1_mostSaved_73 (by decide) rfl ?_
          refine ww_goto C (tgt := 18) dX1_mostSaved_76 (by decide) ?_
          exact ih18 (s + 1) bb _ _ _ (by omega) (by omega) (by omega) hT1 hW1 (by rw [hb]; show _ = if _ then _ else _; rw [if_neg (by rw [c57]; omega)]) hG hf
        · skip
          refine ww_iload3 C dX1_mostSaved_60 ?_
          refine ww_cS1v C (c_bitCount g n w4 (by omega)) kS_X1_97 ⟨Nat.le_of_ble_eq_true rfl, Nat.le_of_ble_eq_true rfl⟩ ⟨rfl, rfl⟩ ⟨Nat.le_of_ble_eq_true rfl, Nat.le_of_ble_eq_true rfl⟩ (Nat.le_of_ble_eq_true rfl) dX1_mostSaved_61 ?_
          refine ww_iload2 C dX1_mostSaved_64 ?_
          refine ww_cS1v C (c_bitCount g n w4 (by omega)) kS_X1_97 ⟨Nat.le_of_ble_eq_true rfl, Nat.le_of_ble_eq_true rfl⟩ ⟨rfl, rfl⟩ ⟨Nat.le_of_ble_eq_true rfl, Nat.le_of_ble_eq_true rfl⟩ (Nat.le_of_ble_eq_true rfl) dX1_mostSaved_65 ?_
          refine ww_icmpleN C (by have := bcN_le s; have := bcN_le bb; omega) (tgt := 73) dX1_mostSaved_68 (by decide) (fun c68 => ?_) (fun c68 => ?_)
          · skip
            refine ww_iincN3 C dX1_mostSaved_73 (by decide) rfl ?_
            refine ww_goto C (tgt := 18) dX1_mostSaved_76 (by decide) ?_
            exact ih18 (s + 1) bb _ _ _ (by omega) (by omega) (by omega) hT1 hW1 (by subst hb; show _ = if _ then _ else _; rw [if_neg (by omega)]) hG hf
          · skip
            refine ww_iload3 C dX1_mostSaved_71 ?_
            refine ww_istore2 C dX1_mostSaved_72 (by decide) rfl ?_
            refine ww_iincN3 C dX1_mostSaved_73 (by decide) rfl ?_
            refine ww_goto C (tgt := 18) dX1_mostSaved_76 (by decide) ?_
            exact ih18 (s + 1) s _ _ _ (by omega) (by omega) (by omega) hT1 hW1 (by subst hb; show _ = if _ then _ else _; rw [if_pos ⟨by have := hG.2.2.2.2.2.2.2.2.2.2.2.2.2.2.2.1 s; rw [hW1 s (by omega)] at this; omega, by omega⟩]) hG hf
  exact lp18 (2 ^ pe + 1) 1 0 _ _ _ (by omega) (Nat.pos_of_ne_zero (by have := Nat.two_pow_pos pe; omega)) (by omega) (fun j hj => by rw [show j = 0 by omega, va_upd_self]; exact (cryN_0 _ _ _ _ _).symm) (fun j hj => by rw [show j = 0 by omega, va_upd_self, ← cov_eq (A := fun _ => 0) (savF_loc hzz.1 Pa (cryN pe Lo Be b v) l) (fun j hj => absurd hj (by omega))]; rfl) (by show 0 = if _ then 0 else 0; split <;> rfl) hG hf
