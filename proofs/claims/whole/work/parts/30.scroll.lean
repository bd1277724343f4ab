theorem ww_baldN {g : Gx} {x : Cx} {cc : ByteArray} {nL : Nat} {own : String} {rt : Option FieldType} {rm : Room} {n' : Nat} {Post : Option Value → Wd → Prop} {cs ss n : Nat} {w : Wd} {pc : Nat} {L : List (Option Value)} {st : List Value} (C : Ck g x cc nL own rt rm n' Post) {k m0 i : Nat} {K : Nat → Int32} (hk : w k = ar 2 m0 K) (hi : i < m0) (hd : decode cc pc = .ok (.baload, 1)) (hm : m0 ≤ 100000 := by decide) (kk : WW g x nL cs ss n w (pc + 1) L (.int (K i) :: st)) : WW g x nL cs ss n w pc L (.int (nI i) :: .ref k :: st) := ww_bald C hk (vi_N hi hm) hd (by rw [cl_N hi hm]; exact kk)
theorem ww_bastN {g : Gx} {x : Cx} {cc : ByteArray} {nL : Nat} {own : String} {rt : Option FieldType} {rm : Room} {n' : Nat} {Post : Option Value → Wd → Prop} {cs ss n : Nat} {w : Wd} {pc : Nat} {L : List (Option Value)} {st : List Value} (C : Ck g x cc nL own rt rm n' Post) {k m0 i : Nat} {z : Int32} {K : Nat → Int32} (hk : w k = ar 2 m0 K) (hi : i < m0) (hd : decode cc pc = .ok (.bastore, 1)) (hm : m0 ≤ 100000 := by decide) (kk : ∀ w1, w1 = va_up w k (ar 2 m0 (va_up K i (vp_nar .byte z))) → WW g x nL cs ss n w1 (pc + 1) L st) : WW g x nL cs ss n w pc L (.int z :: .int (nI i) :: .ref k :: st) := ww_bast C hk (vi_N hi hm) hd (by rw [cl_N hi hm]; exact kk _ rfl)
def SR (w : Wd) (k : Nat) (t : Nat → Nat) (len pl : Nat) (nm : Nat → Nat) : Prop := w k = ob 5 [.ref (k + 1), .int (nI len), .int (nI pl), .ref (k + 2)] ∧ w (k + 1) = ar 2 400 (fun j => sb_b (t j)) ∧ w (k + 2) = ai 6 nm ∧ len ≤ 400 ∧ pl ≤ 400 ∧ (∀ j, t j < 256) ∧ ∀ j, nm j ≤ 5
section SCROLL
variable {w w1 : Wd} {k a c len pl : Nat} {t nm : Nat → Nat}
theorem SR.frm (h : SR w k t len pl nm) (hf : fr w w1 a c) (hd : k + 3 ≤ a ∨ c ≤ k) : SR w1 k t len pl nm := ⟨(hf _ (by omega)).trans h.1, (hf _ (by omega)).trans h.2.1, (hf _ (by omega)).trans h.2.2.1, h.2.2.2⟩
theorem SR.setO {len2 pl2 : Nat} (h : SR w k t len pl nm) (hw : w1 = va_up w k (ob 5 [.ref (k + 1), .int (nI len2), .int (nI pl2), .ref (k + 2)])) (hq : len2 ≤ 400 ∧ pl2 ≤ 400) : SR w1 k t len2 pl2 nm := by
  subst hw
  exact ⟨va_upd_self _ _ _, (va_upd_ne _ _ (by omega)).trans h.2.1, (va_upd_ne _ _ (by omega)).trans h.2.2.1, hq.1, hq.2, h.2.2.2.2.2⟩
theorem SR.setT {t2 : Nat → Nat} {F : Nat → Int32} (h : SR w k t len pl nm) (hw : w1 = va_up w (k + 1) (ar 2 400 F)) (hF : F = fun j => sb_b (t2 j)) (hq : ∀ j, t2 j < 256) : SR w1 k t2 len pl nm := by
  subst hw
  subst hF
  exact ⟨(va_upd_ne _ _ (by omega)).trans h.1, va_upd_self _ _ _, (va_upd_ne _ _ (by omega)).trans h.2.2.1, h.2.2.2.1, h.2.2.2.2.1, hq, h.2.2.2.2.2.2⟩
theorem SR.setM {nm2 : Nat → Nat} (h : SR w k t len pl nm) (hw : w1 = va_up w (k + 2) (ai 6 nm2)) (hq : ∀ j, nm2 j ≤ 5) : SR w1 k t len pl nm2 := by
  subst hw
  exact ⟨(va_upd_ne _ _ (by omega)).trans h.1, (va_upd_ne _ _ (by omega)).trans h.2.1, va_upd_self _ _ _, h.2.2.2.1, h.2.2.2.2.1, h.2.2.2.2.2.1, hq⟩
end SCROLL
/-- the byte at the place that is read, or -1 -/
def hrI (t : Nat → Nat) (len pl : Nat) : Int32 := if pl < len then nI (t pl) else -1
def dgB (t : Nat → Nat) (len h q : Nat) : Bool := decide (q < len ∧ 48 ≤ t q ∧ t q ≤ h)
theorem wb_hr {t : Nat → Nat} {len pl h : Nat} (ht : ∀ j, t j < 256) (hh : h < 2147483648) : wb (nI 48) (nI h) (hrI t len pl) = dgB t len h pl := by
  unfold hrI
  by_cases c : pl < len
  · have := ht pl
    rw [if_pos c, wb_N (by decide) hh (by omega)]
    exact decide_eq_decide.mpr (by omega)
  · rw [if_neg c]
    unfold wb dgB
    have m1 : (-1 : Int32).toInt = -1 := by decide
    rw [decide_eq_false (by rw [nI_toInt (n := 48) (by decide), m1]; omega), decide_eq_false (by omega)]
theorem hr_eq {t : Nat → Nat} {len pl c : Nat} (ht : ∀ j, t j < 256) (hc : c < 256) : hrI t len pl = nI c ↔ pl < len ∧ t pl = c := by
  unfold hrI
  by_cases h : pl < len
  · have := ht pl
    rw [if_pos h, nI_eq (by omega) (by omega)]
    exact ⟨fun e => ⟨h, e⟩, fun e => e.2⟩
  · rw [if_neg h]
    refine ⟨fun e => ?_, fun e => absurd e.1 h⟩
    have e2 := congrArg Int32.toInt e
    rw [nI_toInt (by omega)] at e2
    have : (-1 : Int32).toInt = -1 := by decide
    rw [this] at e2
    omega
theorem hr_dg {t : Nat → Nat} {len pl h : Nat} (d : dgB t len h pl = true) : hrI t len pl = nI (t pl) := by
  have d := of_decide_eq_true d
  unfold hrI
  rw [if_pos d.1]
def vlN (t : Nat → Nat) (pl : Nat) : Nat → Nat
  | 0 => 0
  | k + 1 => vlN t pl k * 10 + t (pl + k) - 48
theorem vlN_le {t : Nat → Nat} {pl len : Nat} : ∀ f, (∀ q, q < f → dgB t len 57 (pl + q) = true) → vlN t pl f + 1 ≤ 10 ^ f
  | 0, _ => Nat.le_refl _
  | f + 1, h => by
    have ih := vlN_le f (fun q hq => h q (by omega))
    have d := of_decide_eq_true (h f (by omega))
    have e : 10 ^ (f + 1) = 10 ^ f * 10 := Nat.pow_succ 10 f
    show vlN t pl f * 10 + t (pl + f) - 48 + 1 ≤ _
    omega
/-- a number of one to three figures from pl on, sep behind it, between lo and hi: it, and the place behind -/
def numR (t : Nat → Nat) (len pl sep lo hi : Nat) : Option (Nat × Nat) :=
  if preN (fun q => dgB t len 57 (pl + q)) 3 = 0 then none else if pl + preN (fun q => dgB t len 57 (pl + q)) 3 < len ∧ t (pl + preN (fun q => dgB t len 57 (pl + q)) 3) = sep then (if lo ≤ vlN t pl (preN (fun q => dgB t len 57 (pl + q)) 3) ∧ vlN t pl (preN (fun q => dgB t len 57 (pl + q)) 3) ≤ hi then some (vlN t pl (preN (fun q => dgB t len 57 (pl + q)) 3), pl + preN (fun q => dgB t len 57 (pl + q)) 3 + 1) else none) else none
def nrI (r : Option (Nat × Nat)) : Int32 := match r with
  | some v => nI v.1
  | none => -1
theorem nr_ne {v : Nat} (h : v < 2147483648) : ¬ nI v = -1 := fun e => by
  have := congrArg Int32.toInt e
  rw [nI_toInt h] at this
  exact absurd this (by show ¬ (v : Int) = -1; omega)
theorem numR_le {t : Nat → Nat} {len pl sep lo hi : Nat} {r : Nat × Nat} (h : numR t len pl sep lo hi = some r) : lo ≤ r.1 ∧ r.1 ≤ hi ∧ r.2 ≤ len := by
  unfold numR at h
  split at h
  · cases h
  · split at h
    · split at h
      · cases h
        rename_i c1 c2
        exact ⟨c2.1, c2.2, by show _ + 1 ≤ len; omega⟩
      · cases h
    · cases h
def namR (t : Nat → Nat) (len pl : Nat) : Option (Nat × Nat) :=
  if preN (fun q => dgB t len 53 (pl + q)) 6 = 0 then none else if pl + preN (fun q => dgB t len 53 (pl + q)) 6 < len ∧ t (pl + preN (fun q => dgB t len 53 (pl + q)) 6) = 44 then some (preN (fun q => dgB t len 53 (pl + q)) 6, pl + preN (fun q => dgB t len 53 (pl + q)) 6 + 1) else none
theorem c_here (g : Gx) (n : Nat) (w : Wd) {k len pl : Nat} {t nm : Nat → Nat} (hS : SR w k t len pl nm) : CT g yX5_here cX5_here 1 (some .int) rm_X5_here n n w [.ref k] (Rv (.int (hrI t len pl)) w) := by
  have hlen := hS.2.2.2.1
  have hpl := hS.2.2.2.2.1
  have ht := hS.2.2.2.2.2.1
  refine CT.start [some (.ref k)] (by decide +kernel) rfl (Nat.le_of_ble_eq_true rfl) (fun x C hnm => ?_)
  refine ww_aload0 C dX5_here_0 ?_
  refine ww_getf C fl_X5_19 hS.1 rfl dX5_here_1 ?_
  refine ww_iconst C (v := nI 0) dX5_here_4 (by decide) ?_
  refine ww_aload0 C dX5_here_5 ?_
  refine ww_getf C fl_X5_15 hS.1 rfl dX5_here_6 ?_
  refine ww_iconst C (v := nI 1) dX5_here_9 (by decide) ?_
  refine ww_isub C dX5_here_10 ?_
  refine ww_cSN3v C (c_within g n w _ _ _) kSN_X5_87 ⟨Nat.le_of_ble_eq_true rfl, Nat.le_of_ble_eq_true rfl⟩ ⟨rfl, rfl⟩ ⟨Nat.le_of_ble_eq_true rfl, Nat.le_of_ble_eq_true rfl⟩ (Nat.le_of_ble_eq_true rfl) dX5_here_11 ?_
  refine ww_topi (show bz _ = bz (decide (pl < len)) by rw [wb_P (by omega)]; unfold hb; rw [nI_toInt (by omega)]; congr 1; exact decide_eq_decide.mpr (by omega)) ?_
  refine ww_ifeqB C (tgt := 33) dX5_here_14 (by decide) (fun c14 => ?_) (fun c14 => ?_)
  · skip
    have c14 := of_decide_eq_false c14
    refine ww_iconst C (v := -1) dX5_here_33 (by decide) ?_
    exact ww_ri C dX5_here_34 rfl ⟨Nat.le_of_ble_eq_true rfl, Nat.le_of_ble_eq_true rfl⟩ (by unfold hrI; rw [if_neg c14]) rfl
  · skip
    have c14 := of_decide_eq_true c14
    refine ww_aload0 C dX5_here_17 ?_
    refine ww_getf C fl_X5_9 hS.1 rfl dX5_here_18 ?_
    refine ww_aload0 C dX5_here_21 ?_
    refine ww_getf C fl_X5_19 hS.1 rfl dX5_here_22 ?_
    refine ww_baldN C hS.2.1 (by omega) dX5_here_25 (kk := ?_)
    refine ww_sipush C (v := nI 255) dX5_here_26 (by decide) ?_
    refine ww_iand C dX5_here_29 ?_
    refine ww_goto C (tgt := 34) dX5_here_30 (by decide) ?_
    exact ww_ri C dX5_here_34 rfl ⟨Nat.le_of_ble_eq_true rfl, Nat.le_of_ble_eq_true rfl⟩ (by unfold hrI; rw [if_pos c14]; exact (sb_byte _ (ht pl)).1) rfl
theorem c_hasRoom (g : Gx) (n : Nat) (w : Wd) {k len pl : Nat} {t nm : Nat → Nat} (hS : SR w k t len pl nm) {q : Nat} (hq : q ≤ 1000) : CT g yX5_hasRoom cX5_hasRoom 2 (some .boolean) rm_X5_hasRoom n n w [.ref k, .int (nI q)] (Rv (.int (bz (decide (len + q ≤ 400)))) w) := by
  have hlen := hS.2.2.2.1
  refine CT.start [some (.ref k), some (.int (nI q))] (by decide +kernel) rfl (Nat.le_of_ble_eq_true rfl) (fun x C hnm => ?_)
  refine ww_iload1 C dX5_hasRoom_0 ?_
  refine ww_sipush C (v := nI 400) dX5_hasRoom_1 (by decide) ?_
  refine ww_aload0 C dX5_hasRoom_4 ?_
  refine ww_getf C fl_X5_15 hS.1 rfl dX5_hasRoom_5 ?_
  refine ww_isubN C (by omega) dX5_hasRoom_8 ?_
  refine ww_icmpgtN C (by omega) (tgt := 16) dX5_hasRoom_9 (by decide) (fun c9 => ?_) (fun c9 => ?_)
  · skip
    refine ww_iconst C (v := nI 0) dX5_hasRoom_16 (by decide) ?_
    exact ww_rz C dX5_hasRoom_17 rfl ⟨Nat.le_of_ble_eq_true rfl, Nat.le_of_ble_eq_true rfl⟩ (by rw [decide_eq_false (by omega)]; rfl) rfl
  · skip
    refine ww_iconst C (v := nI 1) dX5_hasRoom_12 (by decide) ?_
    refine ww_goto C (tgt := 17) dX5_hasRoom_13 (by decide) ?_
    exact ww_rz C dX5_hasRoom_17 rfl ⟨Nat.le_of_ble_eq_true rfl, Nat.le_of_ble_eq_true rfl⟩ (by rw [decide_eq_true (by omega)]; rfl) rfl
theorem c_number (g : Gx) (n : Nat) (w : Wd) {k len pl : Nat} {t nm : Nat → Nat} (hS : SR w k t len pl nm) {lo hi sep : Nat} (hlo : lo ≤ 1000) (hhi : hi ≤ 1000) (hsep : sep < 256) : CT g yX5_number cX5_number 6 (some .int) rm_X5_number n n w [.ref k, .int (nI lo), .int (nI hi), .int (nI sep)] (Rq (.int (nrI (numR t len pl sep lo hi))) (fun w1 => ∃ p1, SR w1 k t len p1 nm ∧ (∀ r, numR t len pl sep lo hi = some r → p1 = r.2) ∧ fr w w1 k (k + 3))) := by
  have hf : fr w w k (k + 3) := fr.rf
  have hlen := hS.2.2.2.1
  have hpl := hS.2.2.2.2.1
  have ht := hS.2.2.2.2.2.1
  refine CT.start [some (.ref k), some (.int (nI lo)), some (.int (nI hi)), some (.int (nI sep)), none, none] (by decide +kernel) rfl (Nat.le_of_ble_eq_true rfl) (fun x C hnm => ?_)
  refine ww_iconst C (v := nI 0) dX5_number_0 (by decide) ?_
  refine ww_istore4 C dX5_number_1 (by decide) rfl ?_
  refine ww_iconst C (v := nI 0) dX5_number_3 (by decide) ?_
  refine ww_istore5 C dX5_number_4 (by decide) rfl ?_
  have lp6 : ∀ (m : Nat) (f : Nat) (u : Wd), f ≤ 3 → 3 < f + m → (∀ q, q < f → dgB t len 57 (pl + q) = true) → pl + f ≤ 400 → SR u k t len (pl + f) nm → fr w u k (k + 3) → WW g x 6 0 0 n u 6 [some (.ref k), some (.int (nI lo)), some (.int (nI hi)), some (.int (nI sep)), some (.int (nI (vlN t pl f))), some (.int (nI f))] [] := by
    intro m
    induction m with
    | zero =>
      intro f u hf0 hm ha hpf hS hf
      exact absurd hm (by omega)
    | succ m ih6 =>
      intro f u hf0 hm ha hpf hS hf
      refine ww_iload5 C dX5_number_6 ?_
      refine ww_iconst C (v := nI 3) dX5_number_8 (by decide) ?_
      refine ww_icmpgeN C (by omega) (tgt := 57) dX5_number_9 (by decide) (fun c9 => ?_) (fun c9 => ?_)
      · skip
        have hk : preN (fun q => dgB t len 57 (pl + q)) 3 = f := preN_eq ha (Or.inl (by omega))
        have hv := vlN_le f ha
        have hv4 : 10 ^ f ≤ 1000 := Nat.le_trans (Nat.pow_le_pow_right (by decide) hf0) (by decide)
        refine ww_iload5 C dX5_number_57 ?_
        refine ww_ifeqN C (by omega) (tgt := 80) dX5_number_59 (by decide) (fun c59 => ?_) (fun c59 => ?_)
        · skip
          refine ww_iconst C (v := -1) dX5_number_80 (by decide) ?_
          exact ww_riq C dX5_number_81 rfl ⟨Nat.le_of_ble_eq_true rfl, Nat.le_of_ble_eq_true rfl⟩ (by unfold numR; rw [hk, if_pos c59]; rfl) ⟨_, hS, (fun r hr => by unfold numR at hr; rw [hk, if_pos c59] at hr; cases hr), hf⟩
        · skip
          refine ww_aload0 C dX5_number_62 ?_
          refine ww_cV0v C hS.1 rfl (c_here g n u hS) kV_X5_35 ⟨Nat.le_of_ble_eq_true rfl, Nat.le_of_ble_eq_true rfl⟩ ⟨rfl, rfl⟩ ⟨Nat.le_of_ble_eq_true rfl, Nat.le_of_ble_eq_true rfl⟩ (Nat.le_of_ble_eq_true rfl) dX5_number_63 ?_
          refine ww_iload3 C dX5_number_66 ?_
          refine ww_icmpne C (tgt := 80) dX5_number_67 (by decide) (fun c67 => ?_) (fun c67 => ?_)
          · skip
            refine ww_iconst C (v := -1) dX5_number_80 (by decide) ?_
            exact ww_riq C dX5_number_81 rfl ⟨Nat.le_of_ble_eq_true rfl, Nat.le_of_ble_eq_true rfl⟩ (by unfold numR; rw [hk, if_neg c59, if_neg (fun q => c67 ((hr_eq ht hsep).mpr q))]; rfl) ⟨_, hS, (fun r hr => by unfold numR at hr; rw [hk, if_neg c59, if_neg (fun q => c67 ((hr_eq ht hsep).mpr q))] at hr; cases hr), hf⟩
          · skip
            refine ww_iload4 C dX5_number_70 ?_
            refine ww_iload1 C dX5_number_72 ?_
            refine ww_iload2 C dX5_number_73 ?_
            refine ww_cSN3v C (c_within g n u _ _ _) kSN_X5_87 ⟨Nat.le_of_ble_eq_true rfl, Nat.le_of_ble_eq_true rfl⟩ ⟨rfl, rfl⟩ ⟨Nat.le_of_ble_eq_true rfl, Nat.le_of_ble_eq_true rfl⟩ (Nat.le_of_ble_eq_true rfl) dX5_number_74 ?_
            refine ww_topi (show bz _ = bz (decide (lo ≤ vlN t pl f ∧ vlN t pl f ≤ hi)) by rw [wb_N (by omega) (by omega) (by omega)]) ?_
            refine ww_ifneB C (tgt := 82) dX5_number_77 (by decide) (fun c77 => ?_) (fun c77 => ?_)
            · skip
              have hlt := ((hr_eq ht hsep).mp c67).1
              refine ww_aload0 C dX5_number_82 ?_
              refine ww_dup C dX5_number_83 rfl ?_
              refine ww_getf C fl_X5_19 hS.1 rfl dX5_number_84 ?_
              refine ww_iconst C (v := nI 1) dX5_number_87 (by decide) ?_
              refine ww_iaddN C dX5_number_88 ?_
              refine ww_putI C fl_X5_19 hS.1 (Nat.le_of_ble_eq_true rfl) rfl dX5_number_89 (fun w1 hw1 => ?_)
              have hf : fr w w1 k (k + 3) := hf.tr (fr.up hw1 (by omega) (by omega))
              have hS := hS.setO hw1 (by omega)
              refine ww_iload4 C dX5_number_92 ?_
              exact ww_riq C dX5_number_94 rfl ⟨Nat.le_of_ble_eq_true rfl, Nat.le_of_ble_eq_true rfl⟩ (by unfold numR; rw [hk, if_neg c59, if_pos ((hr_eq ht hsep).mp c67), if_pos (of_decide_eq_true c77)]; rfl) ⟨_, hS, (fun r hr => by unfold numR at hr; rw [hk, if_neg c59, if_pos ((hr_eq ht hsep).mp c67), if_pos (of_decide_eq_true c77)] at hr; cases hr; rfl), hf⟩
            · skip
              refine ww_iconst C (v := -1) dX5_number_80 (by decide) ?_
              exact ww_riq C dX5_number_81 rfl ⟨Nat.le_of_ble_eq_true rfl, Nat.le_of_ble_eq_true rfl⟩ (by unfold numR; rw [hk, if_neg c59, if_pos ((hr_eq ht hsep).mp c67), if_neg (of_decide_eq_false c77)]; rfl) ⟨_, hS, (fun r hr => by unfold numR at hr; rw [hk, if_neg c59, if_pos ((hr_eq ht hsep).mp c67), if_neg (of_decide_eq_false c77)] at hr; cases hr), hf⟩
      · skip
        refine ww_aload0 C dX5_number_12 ?_
        refine ww_cV0v C hS.1 rfl (c_here g n u hS) kV_X5_35 ⟨Nat.le_of_ble_eq_true rfl, Nat.le_of_ble_eq_true rfl⟩ ⟨rfl, rfl⟩ ⟨Nat.le_of_ble_eq_true rfl, Nat.le_of_ble_eq_true rfl⟩ (Nat.le_of_ble_eq_true rfl) dX5_number_13 ?_
        refine ww_bipush C (v := nI 48) dX5_number_16 (by decide) ?_
        refine ww_bipush C (v := nI 57) dX5_number_18 (by decide) ?_
        refine ww_cSN3v C (c_within g n u _ _ _) kSN_X5_87 ⟨Nat.le_of_ble_eq_true rfl, Nat.le_of_ble_eq_true rfl⟩ ⟨rfl, rfl⟩ ⟨Nat.le_of_ble_eq_true rfl, Nat.le_of_ble_eq_true rfl⟩ (Nat.le_of_ble_eq_true rfl) dX5_number_20 ?_
        refine ww_topi (show bz _ = bz (dgB t len 57 (pl + f)) by rw [wb_hr ht (by decide)]) ?_
        refine ww_ifeqB C (tgt := 57) dX5_number_23 (by decide) (fun c23 => ?_) (fun c23 => ?_)
        · skip
          have hk : preN (fun q => dgB t len 57 (pl + q)) 3 = f := preN_eq ha (Or.inr ⟨by omega, c23⟩)
          have hv := vlN_le f ha
          have hv4 : 10 ^ f ≤ 1000 := Nat.le_trans (Nat.pow_le_pow_right (by decide) hf0) (by decide)
          refine ww_iload5 C dX5_number_57 ?_
          refine ww_ifeqN C (by omega) (tgt := 80) dX5_number_59 (by decide) (fun c59 => ?_) (fun c59 => ?_)
          · skip
            refine ww_iconst C (v := -1) dX5_number_80 (by decide) ?_
            exact ww_riq C dX5_number_81 rfl ⟨Nat.le_of_ble_eq_true rfl, Nat.le_of_ble_eq_true rfl⟩ (by unfold numR; rw [hk, if_pos c59]; rfl) ⟨_, hS, (fun r hr => by unfold numR at hr; rw [hk, if_pos c59] at hr; cases hr), hf⟩
          · skip
            refine ww_aload0 C dX5_number_62 ?_
            refine ww_cV0v C hS.1 rfl (c_here g n u hS) kV_X5_35 ⟨Nat.le_of_ble_eq_true rfl, Nat.le_of_ble_eq_true rfl⟩ ⟨rfl, rfl⟩ ⟨Nat.le_of_ble_eq_true rfl, Nat.le_of_ble_eq_true rfl⟩ (Nat.le_of_ble_eq_true rfl) dX5_number_63 ?_
            refine ww_iload3 C dX5_number_66 ?_
            refine ww_icmpne C (tgt := 80) dX5_number_67 (by decide) (fun c67 => ?_) (fun c67 => ?_)
            · skip
              refine ww_iconst C (v := -1) dX5_number_80 (by decide) ?_
              exact ww_riq C dX5_number_81 rfl ⟨Nat.le_of_ble_eq_true rfl, Nat.le_of_ble_eq_true rfl⟩ (by unfold numR; rw [hk, if_neg c59, if_neg (fun q => c67 ((hr_eq ht hsep).mpr q))]; rfl) ⟨_, hS, (fun r hr => by unfold numR at hr; rw [hk, if_neg c59, if_neg (fun q => c67 ((hr_eq ht hsep).mpr q))] at hr; cases hr), hf⟩
            · skip
              refine ww_iload4 C dX5_number_70 ?_
              refine ww_iload1 C dX5_number_72 ?_
              refine ww_iload2 C dX5_number_73 ?_
              refine ww_cSN3v C (c_within g n u _ _ _) kSN_X5_87 ⟨Nat.le_of_ble_eq_true rfl, Nat.le_of_ble_eq_true rfl⟩ ⟨rfl, rfl⟩ ⟨Nat.le_of_ble_eq_true rfl, Nat.le_of_ble_eq_true rfl⟩ (Nat.le_of_ble_eq_true rfl) dX5_number_74 ?_
              refine ww_topi (show bz _ = bz (decide (lo ≤ vlN t pl f ∧ vlN t pl f ≤ hi)) by rw [wb_N (by omega) (by omega) (by omega)]) ?_
              refine ww_ifneB C (tgt := 82) dX5_number_77 (by decide) (fun c77 => ?_) (fun c77 => ?_)
              · skip
                have hlt := ((hr_eq ht hsep).mp c67).1
                refine ww_aload0 C dX5_number_82 ?_
                refine ww_dup C dX5_number_83 rfl ?_
                refine ww_getf C fl_X5_19 hS.1 rfl dX5_number_84 ?_
                refine ww_iconst C (v := nI 1) dX5_number_87 (by decide) ?_
                refine ww_iaddN C dX5_number_88 ?_
                refine ww_putI C fl_X5_19 hS.1 (Nat.le_of_ble_eq_true rfl) rfl dX5_number_89 (fun w2 hw2 => ?_)
                have hf : fr w w2 k (k + 3) := hf.tr (fr.up hw2 (by omega) (by omega))
                have hS := hS.setO hw2 (by omega)
                refine ww_iload4 C dX5_number_92 ?_
                exact ww_riq C dX5_number_94 rfl ⟨Nat.le_of_ble_eq_true rfl, Nat.le_of_ble_eq_true rfl⟩ (by unfold numR; rw [hk, if_neg c59, if_pos ((hr_eq ht hsep).mp c67), if_pos (of_decide_eq_true c77)]; rfl) ⟨_, hS, (fun r hr => by unfold numR at hr; rw [hk, if_neg c59, if_pos ((hr_eq ht hsep).mp c67), if_pos (of_decide_eq_true c77)] at hr; cases hr; rfl), hf⟩
              · skip
                refine ww_iconst C (v := -1) dX5_number_80 (by decide) ?_
                exact ww_riq C dX5_number_81 rfl ⟨Nat.le_of_ble_eq_true rfl, Nat.le_of_ble_eq_true rfl⟩ (by unfold numR; rw [hk, if_neg c59, if_pos ((hr_eq ht hsep).mp c67), if_neg (of_decide_eq_false c77)]; rfl) ⟨_, hS, (fun r hr => by unfold numR at hr; rw [hk, if_neg c59, if_pos ((hr_eq ht hsep).mp c67), if_neg (of_decide_eq_false c77)] at hr; cases hr), hf⟩
        · skip
          refine ww_iload4 C dX5_number_26 ?_
          refine ww_bipush C (v := nI 10) dX5_number_28 (by decide) ?_
          refine ww_imulN C dX5_number_30 ?_
          refine ww_aload0 C dX5_number_31 ?_
          have hd := of_decide_eq_true c23
          have hv := vlN_le f ha
          have hv3 : 10 ^ f ≤ 100 := Nat.le_trans (Nat.pow_le_pow_right (by decide) (show f ≤ 2 by omega)) (by decide)
          have htf := ht (pl + f)
          refine ww_cV0v C hS.1 rfl (c_here g n u hS) kV_X5_35 ⟨Nat.le_of_ble_eq_true rfl, Nat.le_of_ble_eq_true rfl⟩ ⟨rfl, rfl⟩ ⟨Nat.le_of_ble_eq_true rfl, Nat.le_of_ble_eq_true rfl⟩ (Nat.le_of_ble_eq_true rfl) dX5_number_32 ?_
          refine ww_topi (hr_dg c23) ?_
          refine ww_iaddN C dX5_number_35 ?_
          refine ww_bipush C (v := nI 48) dX5_number_36 (by decide) ?_
          refine ww_isubN C (by omega) dX5_number_38 ?_
          refine ww_istore4 C dX5_number_39 (by decide) rfl ?_
          refine ww_iincN5 C dX5_number_41 (by decide) rfl ?_
          refine ww_aload0 C dX5_number_44 ?_
          refine ww_dup C dX5_number_45 rfl ?_
          refine ww_getf C fl_X5_19 hS.1 rfl dX5_number_46 ?_
          refine ww_iconst C (v := nI 1) dX5_number_49 (by decide) ?_
          refine ww_iaddN C dX5_number_50 ?_
          refine ww_putI C fl_X5_19 hS.1 (Nat.le_of_ble_eq_true rfl) rfl dX5_number_51 (fun w3 hw3 => ?_)
          have hf : fr w w3 k (k + 3) := hf.tr (fr.up hw3 (by omega) (by omega))
          have hS := hS.setO hw3 (by omega)
          refine ww_goto C (tgt := 6) dX5_number_54 (by decide) ?_
          exact ih6 (f + 1) _ (by omega) (by omega) (lt_s ha c23) (by omega) hS hf
  exact lp6 (4) 0 _ (by omega) (by omega) (fun q hq => absurd hq (by omega)) (by omega) hS hf
theorem c_readName (g : Gx) (n : Nat) (w : Wd) {k len pl : Nat} {t nm : Nat → Nat} (hS : SR w k t len pl nm) : CT g yX5_readName cX5_readName 2 (some .int) rm_X5_readName n n w [.ref k] (Rq (.int (nrI (namR t len pl))) (fun w1 => ∃ p1 nm2, SR w1 k t len p1 nm2 ∧ (∀ r, namR t len pl = some r → p1 = r.2 ∧ 1 ≤ r.1 ∧ r.1 ≤ 6 ∧ ∀ j, j < r.1 → nm2 j = t (pl + j) - 48) ∧ fr w w1 k (k + 3))) := by
  have hf : fr w w k (k + 3) := fr.rf
  have hlen := hS.2.2.2.1
  have hpl := hS.2.2.2.2.1
  have ht := hS.2.2.2.2.2.1
  refine CT.start [some (.ref k), none] (by decide +kernel) rfl (Nat.le_of_ble_eq_true rfl) (fun x C hnm => ?_)
  refine ww_iconst C (v := nI 0) dX5_readName_0 (by decide) ?_
  refine ww_istore1 C dX5_readName_1 (by decide) rfl ?_
  have lp2 : ∀ (m : Nat) (f : Nat) (nm2 : Nat → Nat) (u : Wd), f ≤ 6 → 6 < f + m → (∀ q, q < f → dgB t len 53 (pl + q) = true) → (∀ j, j < f → nm2 j = t (pl + j) - 48) → pl + f ≤ 400 → SR u k t len (pl + f) nm2 → fr w u k (k + 3) → WW g x 2 0 0 n u 2 [some (.ref k), some (.int (nI f))] [] := by
    intro m
    induction m with
    | zero =>
      intro f nm2 u hf0 hm ha hn2 hpf hS hf
      exact absurd hm (by omega)
    | succ m ih2 =>
      intro f nm2 u hf0 hm ha hn2 hpf hS hf
      refine ww_iload1 C dX5_readName_2 ?_
      refine ww_bipush C (v := nI 6) dX5_readName_3 (by decide) ?_
      refine ww_icmpgeN C (by omega) (tgt := 51) dX5_readName_5 (by decide) (fun c5 => ?_) (fun c5 => ?_)
      · skip
        have hk : preN (fun q => dgB t len 53 (pl + q)) 6 = f := preN_eq ha (Or.inl (by omega))
        refine ww_iload1 C dX5_readName_51 ?_
        refine ww_ifeqN C (by omega) (tgt := 64) dX5_readName_52 (by decide) (fun c52 => ?_) (fun c52 => ?_)
        · skip
          refine ww_iconst C (v := -1) dX5_readName_64 (by decide) ?_
          exact ww_riq C dX5_readName_65 rfl ⟨Nat.le_of_ble_eq_true rfl, Nat.le_of_ble_eq_true rfl⟩ (by unfold namR; rw [hk, if_pos c52]; rfl) ⟨_, nm2, hS, (fun r hr => by unfold namR at hr; rw [hk, if_pos c52] at hr; cases hr), hf⟩
        · skip
          refine ww_aload0 C dX5_readName_55 ?_
          refine ww_cV0v C hS.1 rfl (c_here g n u hS) kV_X5_35 ⟨Nat.le_of_ble_eq_true rfl, Nat.le_of_ble_eq_true rfl⟩ ⟨rfl, rfl⟩ ⟨Nat.le_of_ble_eq_true rfl, Nat.le_of_ble_eq_true rfl⟩ (Nat.le_of_ble_eq_true rfl) dX5_readName_56 ?_
          refine ww_bipush C (v := nI 44) dX5_readName_59 (by decide) ?_
          refine ww_icmpeq C (tgt := 66) dX5_readName_61 (by decide) (fun c61 => ?_) (fun c61 => ?_)
          · skip
            have hlt := ((hr_eq ht (by decide)).mp c61).1
            refine ww_aload0 C dX5_readName_66 ?_
            refine ww_dup C dX5_readName_67 rfl ?_
            refine ww_getf C fl_X5_19 hS.1 rfl dX5_readName_68 ?_
            refine ww_iconst C (v := nI 1) dX5_readName_71 (by decide) ?_
            refine ww_iaddN C dX5_readName_72 ?_
            refine ww_putI C fl_X5_19 hS.1 (Nat.le_of_ble_eq_true rfl) rfl dX5_readName_73 (fun w1 hw1 => ?_)
            have hf : fr w w1 k (k + 3) := hf.tr (fr.up hw1 (by omega) (by omega))
            have hS := hS.setO hw1 (by omega)
            refine ww_iload1 C dX5_readName_76 ?_
            exact ww_riq C dX5_readName_77 rfl ⟨Nat.le_of_ble_eq_true rfl, Nat.le_of_ble_eq_true rfl⟩ (by unfold namR; rw [hk, if_neg c52, if_pos ((hr_eq ht (by decide)).mp c61)]; rfl) ⟨_, nm2, hS, (fun r hr => by unfold namR at hr; rw [hk, if_neg c52, if_pos ((hr_eq ht (by decide)).mp c61)] at hr; cases hr; exact ⟨rfl, by show 1 ≤ f; omega, hf0, hn2⟩), hf⟩
          · skip
            refine ww_iconst C (v := -1) dX5_readName_64 (by decide) ?_
            exact ww_riq C dX5_readName_65 rfl ⟨Nat.le_of_ble_eq_true rfl, Nat.le_of_ble_eq_true rfl⟩ (by unfold namR; rw [hk, if_neg c52, if_neg (fun q => c61 ((hr_eq ht (by decide)).mpr q))]; rfl) ⟨_, nm2, hS, (fun r hr => by unfold namR at hr; rw [hk, if_neg c52, if_neg (fun q => c61 ((hr_eq ht (by decide)).mpr q))] at hr; cases hr), hf⟩
      · skip
        refine ww_aload0 C dX5_readName_8 ?_
        refine ww_cV0v C hS.1 rfl (c_here g n u hS) kV_X5_35 ⟨Nat.le_of_ble_eq_true rfl, Nat.le_of_ble_eq_true rfl⟩ ⟨rfl, rfl⟩ ⟨Nat.le_of_ble_eq_true rfl, Nat.le_of_ble_eq_true rfl⟩ (Nat.le_of_ble_eq_true rfl) dX5_readName_9 ?_
        refine ww_bipush C (v := nI 48) dX5_readName_12 (by decide) ?_
        refine ww_bipush C (v := nI 53) dX5_readName_14 (by decide) ?_
        refine ww_cSN3v C (c_within g n u _ _ _) kSN_X5_87 ⟨Nat.le_of_ble_eq_true rfl, Nat.le_of_ble_eq_true rfl⟩ ⟨rfl, rfl⟩ ⟨Nat.le_of_ble_eq_true rfl, Nat.le_of_ble_eq_true rfl⟩ (Nat.le_of_ble_eq_true rfl) dX5_readName_16 ?_
        refine ww_topi (show bz _ = bz (dgB t len 53 (pl + f)) by rw [wb_hr ht (by decide)]) ?_
        refine ww_ifeqB C (tgt := 51) dX5_readName_19 (by decide) (fun c19 => ?_) (fun c19 => ?_)
        · skip
          have hk : preN (fun q => dgB t len 53 (pl + q)) 6 = f := preN_eq ha (Or.inr ⟨by omega, c19⟩)
          refine ww_iload1 C dX5_readName_51 ?_
          refine ww_ifeqN C (by omega) (tgt := 64) dX5_readName_52 (by decide) (fun c52 => ?_) (fun c52 => ?_)
          · skip
            refine ww_iconst C (v := -1) dX5_readName_64 (by decide) ?_
            exact ww_riq C dX5_readName_65 rfl ⟨Nat.le_of_ble_eq_true rfl, Nat.le_of_ble_eq_true rfl⟩ (by unfold namR; rw [hk, if_pos c52]; rfl) ⟨_, nm2, hS, (fun r hr => by unfold namR at hr; rw [hk, if_pos c52] at hr; cases hr), hf⟩
          · skip
            refine ww_aload0 C dX5_readName_55 ?_
            refine ww_cV0v C hS.1 rfl (c_here g n u hS) kV_X5_35 ⟨Nat.le_of_ble_eq_true rfl, Nat.le_of_ble_eq_true rfl⟩ ⟨rfl, rfl⟩ ⟨Nat.le_of_ble_eq_true rfl, Nat.le_of_ble_eq_true rfl⟩ (Nat.le_of_ble_eq_true rfl) dX5_readName_56 ?_
            refine ww_bipush C (v := nI 44) dX5_readName_59 (by decide) ?_
            refine ww_icmpeq C (tgt := 66) dX5_readName_61 (by decide) (fun c61 => ?_) (fun c61 => ?_)
            · skip
              have hlt := ((hr_eq ht (by decide)).mp c61).1
              refine ww_aload0 C dX5_readName_66 ?_
              refine ww_dup C dX5_readName_67 rfl ?_
              refine ww_getf C fl_X5_19 hS.1 rfl dX5_readName_68 ?_
              refine ww_iconst C (v := nI 1) dX5_readName_71 (by decide) ?_
              refine ww_iaddN C dX5_readName_72 ?_
              refine ww_putI C fl_X5_19 hS.1 (Nat.le_of_ble_eq_true rfl) rfl dX5_readName_73 (fun w2 hw2 => ?_)
              have hf : fr w w2 k (k + 3) := hf.tr (fr.up hw2 (by omega) (by omega))
              have hS := hS.setO hw2 (by omega)
              refine ww_iload1 C dX5_readName_76 ?_
              exact ww_riq C dX5_readName_77 rfl ⟨Nat.le_of_ble_eq_true rfl, Nat.le_of_ble_eq_true rfl⟩ (by unfold namR; rw [hk, if_neg c52, if_pos ((hr_eq ht (by decide)).mp c61)]; rfl) ⟨_, nm2, hS, (fun r hr => by unfold namR at hr; rw [hk, if_neg c52, if_pos ((hr_eq ht (by decide)).mp c61)] at hr; cases hr; exact ⟨rfl, by show 1 ≤ f; omega, hf0, hn2⟩), hf⟩
            · skip
              refine ww_iconst C (v := -1) dX5_readName_64 (by decide) ?_
              exact ww_riq C dX5_readName_65 rfl ⟨Nat.le_of_ble_eq_true rfl, Nat.le_of_ble_eq_true rfl⟩ (by unfold namR; rw [hk, if_neg c52, if_neg (fun q => c61 ((hr_eq ht (by decide)).mpr q))]; rfl) ⟨_, nm2, hS, (fun r hr => by unfold namR at hr; rw [hk, if_neg c52, if_neg (fun q => c61 ((hr_eq ht (by decide)).mpr q))] at hr; cases hr), hf⟩
        · skip
          refine ww_aload0 C dX5_readName_22 ?_
          refine ww_getf C fl_X5_22 hS.1 rfl dX5_readName_23 ?_
          refine ww_iload1 C dX5_readName_26 ?_
          refine ww_aload0 C dX5_readName_27 ?_
          have hd := of_decide_eq_true c19
          have htf := ht (pl + f)
          refine ww_cV0v C hS.1 rfl (c_here g n u hS) kV_X5_35 ⟨Nat.le_of_ble_eq_true rfl, Nat.le_of_ble_eq_true rfl⟩ ⟨rfl, rfl⟩ ⟨Nat.le_of_ble_eq_true rfl, Nat.le_of_ble_eq_true rfl⟩ (Nat.le_of_ble_eq_true rfl) dX5_readName_28 ?_
          refine ww_topi (hr_dg c19) ?_
          refine ww_bipush C (v := nI 48) dX5_readName_31 (by decide) ?_
          refine ww_isubN C (by omega) dX5_readName_33 ?_
          refine ww_iastN C hS.2.2.1 (by omega) dX5_readName_34 (kk := fun w3 hw3 => ?_)
          have hf : fr w w3 k (k + 3) := hf.tr (fr.up hw3 (by omega) (by omega))
          have hS := hS.setM hw3 (up_le hS.2.2.2.2.2.2 (by omega))
          refine ww_iincN1 C dX5_readName_35 (by decide) rfl ?_
          refine ww_aload0 C dX5_readName_38 ?_
          refine ww_dup C dX5_readName_39 rfl ?_
          refine ww_getf C fl_X5_19 hS.1 rfl dX5_readName_40 ?_
          refine ww_iconst C (v := nI 1) dX5_readName_43 (by decide) ?_
          refine ww_iaddN C dX5_readName_44 ?_
          refine ww_putI C fl_X5_19 hS.1 (Nat.le_of_ble_eq_true rfl) rfl dX5_readName_45 (fun w4 hw4 => ?_)
          have hf : fr w w4 k (k + 3) := hf.tr (fr.up hw4 (by omega) (by omega))
          have hS := hS.setO hw4 (by omega)
          refine ww_goto C (tgt := 2) dX5_readName_48 (by decide) ?_
          exact ih2 (f + 1) _ _ (by omega) (by omega) (lt_s ha c19) (lt_s (fun j hj => by rw [va_upd_ne _ _ (by omega)]; exact hn2 j hj) (va_upd_self _ _ _)) (by omega) hS hf
  exact lp2 (7) 0 _ _ (by omega) (by omega) (fun q hq => absurd hq (by omega)) (fun q hq => absurd hq (by omega)) (by omega) hS hf
