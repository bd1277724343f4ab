/-! Rows that make cells; contracts of the constructors. -/
theorem HW.push {g : Gx} {n : Nat} {w : Wd} {H H1 : Heap} {e : Ce} (hH : HW g n w H) (hn : n < 100) (hz : H1.size = g.2.2.2.1 + n + 1) (oq : ∀ q : Nat, q < g.2.2.2.1 + n → H1[q]? = H[q]?) (he : va_at g.2.1 cls_ (g.2.2.2.1 + n, ce g e) H1) : HW g (n + 1) (va_up w n e) H1 := by
  refine ⟨hn, hz, fun j hj => ?_, fun j hj => ?_⟩
  · by_cases hjk : j = n
    · subst hjk
      rw [va_upd_self]
      exact he
    · rw [va_upd_ne _ _ hjk]
      exact (hH.2.2.1 j (by omega)).kept (oq _ (by show _ + j < _; omega))
  · rw [va_upd_ne _ _ (by omega)]
    exact hH.2.2.2 j (by omega)
theorem vs_push {A : Nat → Prop} {H0 H H1 : Heap} {locs : List Loc} {h : Nat} (hS : va_S A H0 H locs) (hh : H.size = h) (hz : H1.size = h + 1) (oq : ∀ q : Nat, q < h → H1[q]? = H[q]?) : va_S A H0 H1 locs := by
  subst hh
  exact ⟨Nat.le_trans hS.1 (by omega), fun q h1 h2 => (oq q (Nat.lt_of_lt_of_le h1 hS.1)).trans (hS.2.1 q h1 h2), hS.2.2⟩
/-- a class whose objects own makes by the index idx: number ci, N fields, at first fs -/
def NWK (own : String) (idx ci N : Nat) (fs : List Value) : Prop := ∃ (Cn : String) (T : u_T) (ty : Nat → FieldType), cls_[ci]? = some (Cn, T, N) ∧ (∀ w ∈ u_ws Cn T N, w ∈ TS) ∧ (∀ k, k < N → parseFieldDescriptor (T k).2.2.1 = some (ty k)) ∧ Cond.classLink own idx Cn ∈ TS ∧ Cond.instantiable Cn N ∈ TS ∧ Cond.initialized Cn ∈ TS ∧ ∀ (g : Gx) (j : Nat), j < N → defaultValue (ty j) = vp_V (fs.map (tr g)) j
theorem w_new {g : Gx} {n cs ss : Nat} {w : Wd} {p : Program} {e : Env} {R : Room} {s : State} {m : MethodId} {args : Array Value} {below : List Frame} {meth : Method} {c : Code} {Q : State → Prop} {H : Heap} {locs : List Loc} {ls : Array Slot} {rest : List Value} {cc : ByteArray} {own : String} {pc idx ci N : Nat} {fs : List Value} (hx : p.tables.exec = Jvm.exec) (hb : c.code = cc) (hown : s.vm.findClass own = some m.cls) (hts : ∀ w ∈ TS, w.before args s = true) (hK : KK g s) (F : NWK own idx ci N fs) (hn : n < 100) (hcs : cs + 1 ≤ R.cells) (hss : ss + N ≤ R.slots) (hd : decode cc pc = .ok (.new idx, 3)) (hH : HW g n w H) (hS : va_S (gA g) s.heap H locs)
    (kk : ∀ H1, HW g (n + 1) (va_up w n (ob ci fs)) H1 → va_S (gA g) s.heap H1 locs → W p g.1 e R s m args below meth c H1 locs (cs + 1) (ss + N) Q (F0 m (pc + 3) ls (.ref (g.2.2.2.1 + n) :: rest))) : W p g.1 e R s m args below meth c H locs cs ss Q (F0 m pc ls rest) := by
  obtain ⟨Cn, T, ty, hc, hin, hty, hcl, hinst, hini, hfs⟩ := F
  have hKn := hK.1.1 ci _ hc
  refine W.newcK hx hb hown (hts _ hcl) (hts _ hinst) (hts _ hini) rfl hd hcs hss hKn.2.1 hH.2.1 fun H1 kC hkC e1 z1 o1 => ?_
  exact kk H1 (hH.push hn z1 o1 ⟨_, hc, (u_born ty hts hin hKn hkC e1 hty).to (hfs g)⟩) (vs_push hS hH.2.1 z1 o1)
section MAKE
variable {g : Gx} {x : Cx} {cc : ByteArray} {nL : Nat} {own : String} {rt : Option FieldType} {rm : Room} {n' : Nat} {Post : Option Value → Wd → Prop} {cs ss n : Nat} {w : Wd} {pc : Nat} {L : List (Option Value)} {st : List Value}
theorem ww_new (C : Ck g x cc nL own rt rm n' Post) {idx ci N : Nat} {fs : List Value} (F : NWK own idx ci N fs) (hn : n < 100) (hcs : cs + 1 ≤ rm.cells) (hss : ss + N ≤ rm.slots) (hd : decode cc pc = .ok (.new idx, 3)) (kk : ∀ w1, w1 = va_up w n (ob ci fs) → WW g x nL (cs + 1) (ss + N) (n + 1) w1 (pc + 3) L (.ref n :: st)) : WW g x nL cs ss n w pc L st := by
  obtain ⟨p, e, R, s, m, args, below, meth, c, Q⟩ := x
  obtain ⟨hx, hb, hml, hr, hlk, hown, hts, hK, hR, hbs, hQ⟩ := C
  subst hR
  intro H locs ls hH hS hl
  refine w_new hx hb hown hts hK F hn hcs hss hd hH hS fun H1 hH1 hS1 => ?_
  have := kk _ rfl H1 locs ls hH1 hS1 hl
  have e1 : tr g (.ref n) = .ref (g.2.2.2.1 + n) := congrArg Value.ref (ad_lt g hn)
  rw [List.map_cons, e1] at this
  exact this
theorem ka_int : Cond.arrayClass (.int) ∈ TS := ts_of (List.mem_of_getElem? (i := 93) (by decide +kernel)) rfl
theorem ww_newI (C : Ck g x cc nL own rt rm n' Post) {m0 : Nat} (hm : m0 ≤ 10000) (hn : n < 100) (hcs : cs + 1 ≤ rm.cells) (hss : ss + m0 ≤ rm.slots) (hd : decode cc pc = .ok (.newarray .int, 2)) (kk : ∀ w1, w1 = va_up w n (ar 0 m0 (fun _ => nI 0)) → WW g x nL (cs + 1) (ss + m0) (n + 1) w1 (pc + 2) L (.ref n :: st)) : WW g x nL cs ss n w pc L (.int (nI m0) :: st) := by
  obtain ⟨p, e, R, s, m, args, below, meth, c, Q⟩ := x
  obtain ⟨hx, hb, hml, hr, hlk, hown, hts, hK, hR, hbs, hQ⟩ := C
  subst hR
  intro H locs ls hH hS hl
  refine va_newaK (atype := .int) (n := nI m0) (N := m0) (rest := st.map (tr g)) hx hb (hts _ ka_int) rfl hd rfl (nI_pos (by omega)) (nI_clamp (by omega)) (by show m0 * 4 ≤ _; omega) hcs hss hH.2.1 fun H1 cA e1 z1 o1 hAr hNm => ?_
  have hcA : cA = g.2.2.1 0 := Option.some.inj (hNm.symm.trans (hK.1.2 0 _ rfl).2)
  subst hcA
  have := kk _ rfl H1 locs ls (hH.push hn z1 o1 (by show H1[_]? = some (vp_cell _ _); rw [vp_cell_i]; exact e1)) (vs_push hS hH.2.1 z1 o1) hl
  have e2 : tr g (.ref n) = .ref (g.2.2.2.1 + n) := congrArg Value.ref (ad_lt g hn)
  rw [List.map_cons, e2] at this
  exact this
theorem ka_boolean : Cond.arrayClass (.boolean) ∈ TS := ts_of (List.mem_of_getElem? (i := 166) (by decide +kernel)) rfl
theorem ww_newZ (C : Ck g x cc nL own rt rm n' Post) {m0 : Nat} (hm : m0 ≤ 10000) (hn : n < 100) (hcs : cs + 1 ≤ rm.cells) (hss : ss + m0 ≤ rm.slots) (hd : decode cc pc = .ok (.newarray .boolean, 2)) (kk : ∀ w1, w1 = va_up w n (ar 1 m0 (fun _ => nI 0)) → WW g x nL (cs + 1) (ss + m0) (n + 1) w1 (pc + 2) L (.ref n :: st)) : WW g x nL cs ss n w pc L (.int (nI m0) :: st) := by
  obtain ⟨p, e, R, s, m, args, below, meth, c, Q⟩ := x
  obtain ⟨hx, hb, hml, hr, hlk, hown, hts, hK, hR, hbs, hQ⟩ := C
  subst hR
  intro H locs ls hH hS hl
  refine va_newaK (atype := .boolean) (n := nI m0) (N := m0) (rest := st.map (tr g)) hx hb (hts _ ka_boolean) rfl hd rfl (nI_pos (by omega)) (nI_clamp (by omega)) (by show m0 * 1 ≤ _; omega) hcs hss hH.2.1 fun H1 cA e1 z1 o1 hAr hNm => ?_
  have hcA : cA = g.2.2.1 1 := Option.some.inj (hNm.symm.trans (hK.1.2 1 _ rfl).2)
  subst hcA
  have := kk _ rfl H1 locs ls (hH.push hn z1 o1 (by show H1[_]? = some (vp_cell _ _); rw [vp_cell_i]; exact e1)) (vs_push hS hH.2.1 z1 o1) hl
  have e2 : tr g (.ref n) = .ref (g.2.2.2.1 + n) := congrArg Value.ref (ad_lt g hn)
  rw [List.map_cons, e2] at this
  exact this
theorem ka_byte : Cond.arrayClass (.byte) ∈ TS := ts_of (List.mem_of_getElem? (i := 92) (by decide +kernel)) rfl
theorem ww_newB (C : Ck g x cc nL own rt rm n' Post) {m0 : Nat} (hm : m0 ≤ 10000) (hn : n < 100) (hcs : cs + 1 ≤ rm.cells) (hss : ss + m0 ≤ rm.slots) (hd : decode cc pc = .ok (.newarray .byte, 2)) (kk : ∀ w1, w1 = va_up w n (ar 2 m0 (fun _ => sb_b 0)) → WW g x nL (cs + 1) (ss + m0) (n + 1) w1 (pc + 2) L (.ref n :: st)) : WW g x nL cs ss n w pc L (.int (nI m0) :: st) := by
  obtain ⟨p, e, R, s, m, args, below, meth, c, Q⟩ := x
  obtain ⟨hx, hb, hml, hr, hlk, hown, hts, hK, hR, hbs, hQ⟩ := C
  subst hR
  intro H locs ls hH hS hl
  refine va_newaK (atype := .byte) (n := nI m0) (N := m0) (rest := st.map (tr g)) hx hb (hts _ ka_byte) rfl hd rfl (nI_pos (by omega)) (nI_clamp (by omega)) (by show m0 * 1 ≤ _; omega) hcs hss hH.2.1 fun H1 cA e1 z1 o1 hAr hNm => ?_
  have hcA : cA = g.2.2.1 2 := Option.some.inj (hNm.symm.trans (hK.1.2 2 _ rfl).2)
  subst hcA
  have := kk _ rfl H1 locs ls (hH.push hn z1 o1 (by show H1[_]? = some (vp_cell _ _); rw [vp_cell_i]; exact e1)) (vs_push hS hH.2.1 z1 o1) hl
  have e2 : tr g (.ref n) = .ref (g.2.2.2.1 + n) := congrArg Value.ref (ad_lt g hn)
  rw [List.map_cons, e2] at this
  exact this
theorem ko_i : Cond.instanceMethod objectInit ∈ TS := ts_of (List.mem_of_getElem? (i := 70) (by decide +kernel)) rfl
theorem ko_c : Cond.code objectInit ⟨#[0xb1]⟩ 1 none ∈ TS := ts_of (List.mem_of_getElem? (i := 71) (by decide +kernel)) rfl
theorem ww_oinit (C : Ck g x cc nL own rt rm n' Post) {idx k : Nat} (hl1 : Cond.methodLink own idx objectInit ∈ TS) (hfr : 1 ≤ rm.frames) (hW : (st.map fun v => v.category).sum ≤ 8) (hlo : 20 ≤ rm.locals) (hd : decode cc pc = .ok (.invokespecial idx, 3)) (kk : WW g x nL cs ss n w (pc + 3) L st) : WW g x nL cs ss n w pc L (.ref k :: st) := by
  obtain ⟨p, e, R, s, m, args, below, meth, c, Q⟩ := x
  obtain ⟨hx, hb, hml, hr, hlk, hown, hts, hK, hR, hbs, hQ⟩ := C
  subst hR
  intro H locs ls hH hS hl
  have h8 := lv_room (m := m) (pc := pc) (ls := ls) (rest := .ref (ad g k) :: st.map (tr g)) (st := st.map (tr g)) (by rw [tr_sum]; exact hW)
  exact W.objInit (a := ad g k) (rest := st.map (tr g)) hx hb hown (hts _ hl1) (hts _ ko_i) (hts _ ko_c) rfl (hl.1.trans hml.symm) rfl hd hfr (Nat.le_trans (Nat.add_le_add_right h8 12) hlo) (kk H locs ls hH hS hl)
/-- a constructor without arguments, of the nest's classes -/
theorem ww_mk (C : Ck g x cc nL own rt rm n' Post) {y : MethodName} {cy : ByteArray} {my : Nat} {rmy : Room} {n2 idx : Nat} {Q0 : Wd → Prop} {rest : List Value} {k ci : Nat} {fs : List Value} (hk : w k = ob ci fs) (hM : CT g y cy my none rmy n n2 w [.ref k] (R0q Q0)) (hok : okIN own idx y cy my 0) (hroom : rmy.frames + 1 ≤ rm.frames ∧ 8 + (my + 11) + rmy.locals ≤ rm.locals) (hcs : cs + rmy.cells ≤ rm.cells ∧ ss + rmy.slots ≤ rm.slots) (hW : (rest.map fun v => v.category).sum ≤ 8) (hd : decode cc pc = .ok (.invokespecial idx, 3)) (kk : ∀ w1, Q0 w1 → WW g x nL (cs + rmy.cells) (ss + rmy.slots) n2 w1 (pc + 3) L rest) : WW g x nL cs ss n w pc L (.ref k :: rest) :=
  ww_callIN C (as := []) (rest := rest) hk hM hok hroom hcs rfl rfl hW hd (fun r w' h => by obtain ⟨h1, h2⟩ := h; subst h1; exact kk _ h2)
theorem ww_putA (C : Ck g x cc nL own rt rm n' Post) (hin2 : x.2.2.2.2.2.2.2.1.name = "<init>") {idx ci j k r : Nat} {t0 : FieldType} {fs fs2 : List Value} (F : FL own idx ci j true (.array t0)) (hcl : (cls_[ci]?).map Prod.fst = some own) (hk : w k = ob ci fs) (hl0 : j < fs.length) (hf2 : fs.set j (.ref r) = fs2) (hd : decode cc pc = .ok (.putfield idx, 3)) (kk : ∀ w1, w1 = va_up w k (ob ci fs2) → WW g x nL cs ss n w1 (pc + 3) L st) : WW g x nL cs ss n w pc L (.ref r :: .ref k :: st) := ww_putF C hin2 F hcl hk hl0 rfl rfl hd (by rw [hf2]; exact kk _ rfl)
theorem ww_putO (C : Ck g x cc nL own rt rm n' Post) (hin2 : x.2.2.2.2.2.2.2.1.name = "<init>") {idx ci j k r : Nat} {C0 : String} {fs fs2 : List Value} (F : FL own idx ci j true (.object C0)) (hcl : (cls_[ci]?).map Prod.fst = some own) (hk : w k = ob ci fs) (hl0 : j < fs.length) (hf2 : fs.set j (.ref r) = fs2) (hd : decode cc pc = .ok (.putfield idx, 3)) (kk : ∀ w1, w1 = va_up w k (ob ci fs2) → WW g x nL cs ss n w1 (pc + 3) L st) : WW g x nL cs ss n w pc L (.ref r :: .ref k :: st) := ww_putF C hin2 F hcl hk hl0 rfl rfl hd (by rw [hf2]; exact kk _ rfl)
end MAKE
/-- what is known of the static row's own field -/
def ZZ (g : Gx) (U : State) : Prop := va_Z "DeedNames" "FIRST_NAME" "[I" (.ref g.2.2.2.2) (gA g) U U.heap
def CTz (g : Gx) (y : MethodName) (cc : ByteArray) (mL : Nat) (rt : Option FieldType) (rm : Room) (n n' : Nat) (w : Wd) (av : List Value) (Post : Option Value → Wd → Prop) : Prop :=
  Met g.1 y (Cond.code y cc mL rt :: TS) rm (fun v U => pc_ g n w av v U ∧ ZZ g U) (qc_ g n' Post) rm.cells rm.slots (gA g)
theorem CTz.start {g : Gx} {y : MethodName} {cc : ByteArray} {mL : Nat} {rt : Option FieldType} {rm : Room} {n n' : Nat} {w : Wd} {av : List Value} {Post : Option Value → Wd → Prop} (L : List (Option Value)) (hy : plainName y.cls = true) (hL : entL av ++ List.replicate (mL - (entL av).length) none = L) (hl : (entL av).length ≤ mL)
    (body : ∀ x : Cx, Ck g x cc mL y.cls rt rm n' Post → x.2.2.2.2.2.2.2.1.name = y.name → ZZ g x.2.2.2.1 → WW g x mL 0 0 n w 0 L []) : CTz g y cc mL rt rm n n' w av Post := by
  refine Met.ofW (cc := cc) (maxL := mL) (ret := rt) hy rfl ?_
  intro p e s m args below meth c s₁ B hml hv
  obtain ⟨⟨rfl, hH, hK⟩, hZ⟩ := hv
  have hts := atoms_spec (ws := Cond.code y cc mL rt :: TS) B.pre
  have hbody := body (p, e, rm, s, m, (av.map (tr g)).toArray, below, meth, c, MQ below (qc_ g n' Post) (av.map (tr g)).toArray s rm.cells rm.slots (gA g)) ⟨B.exec, B.bytes, hml, B.returns, B.notSynchronized, findClass_of_methodNamed B.named, fun w hw => hts w (List.mem_cons_of_mem _ hw), hK, rfl, by rw [hH.2.1]; exact Nat.le_add_right _ _, rfl⟩ (name_of_methodNamed B.named B.method).1 hZ
  have hl0 := lv_entry (av.map (tr g)) (n := mL) (by rw [lg_sl_len]; exact hl)
  rw [lg_entry_eq]
  refine hbody s.heap [] _ hH va_S.rf ⟨hl0.1, hl0.2.1, fun q hq => hl0.2.2 q ?_⟩
  obtain ⟨v, hv, hq2⟩ := mem_lvl.mp hq
  have hlt : (entL av)[q.1]? = some (some v) := by
    rw [← hL] at hv
    by_cases hi : q.1 < (entL av).length
    · rw [List.getElem?_append_left hi] at hv
      exact hv
    · rw [List.getElem?_append_right (by omega)] at hv
      have := List.mem_of_getElem? hv
      simp at this
  have := lv_args_ent g av 0 q ⟨v, hlt, hq2⟩
  rwa [Nat.zero_add] at this
theorem ks_first : Cond.fieldLink RX6 57 "DeedNames" "FIRST_NAME" "[I" ∈ TS := ts_of (List.mem_of_getElem? (i := 246) (by decide +kernel)) rfl
theorem ww_first {g : Gx} {x : Cx} {cc : ByteArray} {nL : Nat} {own : String} {rt : Option FieldType} {rm : Room} {n' : Nat} {Post : Option Value → Wd → Prop} {cs ss n : Nat} {w : Wd} {pc : Nat} {L : List (Option Value)} {st : List Value} (C : Ck g x cc nL own rt rm n' Post) (hZ : ZZ g x.2.2.2.1) {idx : Nat} (hl1 : Cond.fieldLink own idx "DeedNames" "FIRST_NAME" "[I" ∈ TS) (hd : decode cc pc = .ok (.getstatic idx, 3)) (kk : WW g x nL cs ss n w (pc + 3) L (.ref 1000 :: st)) : WW g x nL cs ss n w pc L st := by
  obtain ⟨p, e, R, s, m, args, below, meth, c, Q⟩ := x
  obtain ⟨hx, hb, hml, hr, hlk, hown, hts, hK, hR, hbs, hQ⟩ := C
  intro H locs ls hH hS hl
  have := kk H locs ls hH hS hl
  exact va_gets hx hb hZ hS hown (hts _ hl1) (fun _ h => h) hd this
theorem nk_L_7 : NWK "DeedNamesLaw" 7 6 9 [.null, .null, .null, .null, .null, .null, .int (nI 0), .null, .null] := ⟨RX6, TX6, tyX6, rfl, itX6, tyX6_ok, ts_of (List.mem_of_getElem? (i := 64) (by decide +kernel)) rfl, ts_of (List.mem_of_getElem? (i := 65) (by decide +kernel)) rfl, ts_of (List.mem_of_getElem? (i := 53) (by decide +kernel)) rfl, fun g j hj => by rcases (show j = 0 ∨ j = 1 ∨ j = 2 ∨ j = 3 ∨ j = 4 ∨ j = 5 ∨ j = 6 ∨ j = 7 ∨ j = 8 by omega) with rfl | rfl | rfl | rfl | rfl | rfl | rfl | rfl | rfl <;> rfl⟩
theorem nk_X6_7 : NWK RX6 7 5 4 [.null, .int (nI 0), .int (nI 0), .null] := ⟨RX5, TX5, tyX5, rfl, itX5, tyX5_ok, ts_of (List.mem_of_getElem? (i := 72) (by decide +kernel)) rfl, ts_of (List.mem_of_getElem? (i := 73) (by decide +kernel)) rfl, ts_of (List.mem_of_getElem? (i := 54) (by decide +kernel)) rfl, fun g j hj => by rcases (show j = 0 ∨ j = 1 ∨ j = 2 ∨ j = 3 by omega) with rfl | rfl | rfl | rfl <;> rfl⟩
theorem nk_X6_16 : NWK RX6 16 2 9 [.null, .null, .null, .null, .null, .null, .int (nI 0), .int (nI 0), .int (nI 0)] := ⟨RX2, TX2, tyX2, rfl, itX2, tyX2_ok, ts_of (List.mem_of_getElem? (i := 94) (by decide +kernel)) rfl, ts_of (List.mem_of_getElem? (i := 95) (by decide +kernel)) rfl, ts_of (List.mem_of_getElem? (i := 55) (by decide +kernel)) rfl, fun g j hj => by rcases (show j = 0 ∨ j = 1 ∨ j = 2 ∨ j = 3 ∨ j = 4 ∨ j = 5 ∨ j = 6 ∨ j = 7 ∨ j = 8 by omega) with rfl | rfl | rfl | rfl | rfl | rfl | rfl | rfl | rfl <;> rfl⟩
theorem nk_X2_9 : NWK RX2 9 4 4 [.null, .null, .null, .int (nI 0)] := ⟨RX4, TX4, tyX4, rfl, itX4, tyX4_ok, ts_of (List.mem_of_getElem? (i := 100) (by decide +kernel)) rfl, ts_of (List.mem_of_getElem? (i := 101) (by decide +kernel)) rfl, ts_of (List.mem_of_getElem? (i := 56) (by decide +kernel)) rfl, fun g j hj => by rcases (show j = 0 ∨ j = 1 ∨ j = 2 ∨ j = 3 by omega) with rfl | rfl | rfl | rfl <;> rfl⟩
theorem nk_X6_26 : NWK RX6 26 3 2 [.null, .null] := ⟨RX3, TX3, tyX3, rfl, itX3, tyX3_ok, ts_of (List.mem_of_getElem? (i := 167) (by decide +kernel)) rfl, ts_of (List.mem_of_getElem? (i := 168) (by decide +kernel)) rfl, ts_of (List.mem_of_getElem? (i := 57) (by decide +kernel)) rfl, fun g j hj => by rcases (show j = 0 ∨ j = 1 by omega) with rfl | rfl <;> rfl⟩
theorem nk_X3_7 : NWK RX3 7 4 4 [.null, .null, .null, .int (nI 0)] := ⟨RX4, TX4, tyX4, rfl, itX4, tyX4_ok, ts_of (List.mem_of_getElem? (i := 173) (by decide +kernel)) rfl, ts_of (List.mem_of_getElem? (i := 101) (by decide +kernel)) rfl, ts_of (List.mem_of_getElem? (i := 56) (by decide +kernel)) rfl, fun g j hj => by rcases (show j = 0 ∨ j = 1 ∨ j = 2 ∨ j = 3 by omega) with rfl | rfl | rfl | rfl <;> rfl⟩
theorem nk_X3_16 : NWK RX3 16 0 2 [.null, .int (nI 0)] := ⟨RX0, TX0, tyX0, rfl, itX0, tyX0_ok, ts_of (List.mem_of_getElem? (i := 175) (by decide +kernel)) rfl, ts_of (List.mem_of_getElem? (i := 176) (by decide +kernel)) rfl, ts_of (List.mem_of_getElem? (i := 58) (by decide +kernel)) rfl, fun g j hj => by rcases (show j = 0 ∨ j = 1 by omega) with rfl | rfl <;> rfl⟩
theorem nk_X6_43 : NWK RX6 43 1 13 [.int (nI 0), .int (nI 0), .int (nI 0), .null, .null, .null, .null, .null, .null, .null, .null, .null, .int (nI 0)] := ⟨RX1, TX1, tyX1, rfl, itX1, tyX1_ok, ts_of (List.mem_of_getElem? (i := 198) (by decide +kernel)) rfl, ts_of (List.mem_of_getElem? (i := 199) (by decide +kernel)) rfl, ts_of (List.mem_of_getElem? (i := 59) (by decide +kernel)) rfl, fun g j hj => by rcases (show j = 0 ∨ j = 1 ∨ j = 2 ∨ j = 3 ∨ j = 4 ∨ j = 5 ∨ j = 6 ∨ j = 7 ∨ j = 8 ∨ j = 9 ∨ j = 10 ∨ j = 11 ∨ j = 12 by omega) with rfl | rfl | rfl | rfl | rfl | rfl | rfl | rfl | rfl | rfl | rfl | rfl | rfl <;> rfl⟩
theorem nk_X6_50 : NWK RX6 50 4 4 [.null, .null, .null, .int (nI 0)] := ⟨RX4, TX4, tyX4, rfl, itX4, tyX4_ok, ts_of (List.mem_of_getElem? (i := 244) (by decide +kernel)) rfl, ts_of (List.mem_of_getElem? (i := 101) (by decide +kernel)) rfl, ts_of (List.mem_of_getElem? (i := 56) (by decide +kernel)) rfl, fun g j hj => by rcases (show j = 0 ∨ j = 1 ∨ j = 2 ∨ j = 3 by omega) with rfl | rfl | rfl | rfl <;> rfl⟩
theorem nk_L_10 : NWK "DeedNamesLaw" 10 7 26 [.int (nI 0), .null, .null, .null, .null, .null, .null, .null, .null, .null, .null, .null, .null, .null, .null, .null, .null, .int (nI 0), .int (nI 0), .null, .null, .null, .null, .null, .null, .null] := ⟨RX7, TX7, tyX7, rfl, itX7, tyX7_ok, ts_of (List.mem_of_getElem? (i := 688) (by decide +kernel)) rfl, ts_of (List.mem_of_getElem? (i := 689) (by decide +kernel)) rfl, ts_of (List.mem_of_getElem? (i := 61) (by decide +kernel)) rfl, fun g j hj => by rcases (show j = 0 ∨ j = 1 ∨ j = 2 ∨ j = 3 ∨ j = 4 ∨ j = 5 ∨ j = 6 ∨ j = 7 ∨ j = 8 ∨ j = 9 ∨ j = 10 ∨ j = 11 ∨ j = 12 ∨ j = 13 ∨ j = 14 ∨ j = 15 ∨ j = 16 ∨ j = 17 ∨ j = 18 ∨ j = 19 ∨ j = 20 ∨ j = 21 ∨ j = 22 ∨ j = 23 ∨ j = 24 ∨ j = 25 by omega) with rfl | rfl | rfl | rfl | rfl | rfl | rfl | rfl | rfl | rfl | rfl | rfl | rfl | rfl | rfl | rfl | rfl | rfl | rfl | rfl | rfl | rfl | rfl | rfl | rfl | rfl <;> rfl⟩
