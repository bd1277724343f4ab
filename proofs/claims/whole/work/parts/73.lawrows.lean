def R_law : String := "DeedNamesLaw"
def lw_P (b : Addr) (xs : List Int32) (args : Array Value) (s : State) : Prop := args = #[.ref b] ∧ s.IntsAt b xs ∧ xs.length ≤ 2560 ∧ (Jvm.Cond.and given_1 narrow_1).before args s = true
def lw_Q (_ : Array Value) (s : State) (o : Outcome) (t : State) : Prop := o = .returned (some (.int 1)) ∧ Framed s o t [] 83 7053
def lw_Z (below : List Frame) (a : Array Value) (s : State) : State → Prop := fun t => ∃ o, t.status = .running ∧ Ended t below o ∧ lw_Q a s o t
/-- the law's own end, with 1 on the stack, nothing written that was there before, its room as the claim has it -/
theorem lw_ret {p : Program} {l : Launch} {e : Env} {s : State} {m : MethodId} {below : List Frame} {meth : Method} {c : Code} {b : Nat} (hx : p.tables.exec = Jvm.exec) (hb : c.code = code) (hr : meth.sig.returnType = ret) (hlocks : meth.locks = false) {pc : Nat} {H : Heap} {ls : Array Slot} (hdg : decode code pc = .ok (.ireturn, 1)) : W p l e room_1 s m #[Value.ref b] below meth c H [] 83 7053 (lw_Z below #[Value.ref b] s) (F0 m pc ls [.int 1]) := by
  intro T hT X
  obtain ⟨fs, hret, hrun, hended, hW, hframe⟩ := X.leave (v := some (.int 1)) (hlocks := hlocks) (fun h => by rw [hr] at h; cases h)
  have hmeth' : T.vm.method? m = some meth := X.method'
  refine ⟨T.setFrames fs, ?_, .returned (some (.int 1)), hrun, hended, rfl, ⟨_, rfl⟩, hW, hframe⟩
  jvm_step X.here [X.here.top, hx, hb, hdg, hmeth', hr, ret, narrow_b1]
  (try refine ⟨rfl, ?_⟩); (try refine ⟨rfl, ?_⟩)
  first | (intro acts; rw [hret _ acts rfl rfl rfl]) | rw [hret _ _ rfl rfl rfl]
  exact Steps.refl _
/-- what holds at the law's entry: the machine, the code, the tables' words (any of lw_tbl by 'hts w (by decide +kernel)'), the script of L ints xs at the cell b, what the Statement gives of the start (any of its parts by flat_of_before) -/
def lw_At (p : Program) (s : State) (m : MethodId) (meth : Method) (c : Code) (b L : Nat) (xs : Nat → Int32) : Prop :=
  p.tables.exec = Jvm.exec ∧ c.code = code ∧ meth.sig.returnType = ret ∧ c.maxLocals = 4 ∧ s.vm.findClass R_law = some m.cls ∧ (∀ w ∈ lw_tbl, w.before #[Value.ref b] s = true) ∧ va_X b L xs s s.heap ∧ b < s.heap.size ∧ meth.locks = false ∧ (Jvm.Cond.and given_1 narrow_1).before #[Value.ref b] s = true
theorem w_after {g : Gx} {cs ss pc : Nat} {p : Program} {e : Env} {R : Room} {s : State} {m : MethodId} {args : Array Value} {below : List Frame} {meth : Method} {c : Code} {Q : State → Prop} {mc ms n2 : Nat} {P2 : Option Value → Wd → Prop} {av : Array Value} {st rest : List Value} {H : Heap} {locs : List Loc} {ls : Array Slot} {g1 : JFrame} (hg : g1 = F0 m pc ls st)
    (hr : va_Run p g.1 e R s m args below meth c H locs cs ss mc ms g1 rest (qc_ g n2 P2 av) (gA g)) (hS : va_S (gA g) s.heap H locs)
    (kk : ∀ r w' H1 locs1, P2 r w' → HW g n2 w' H1 → va_S (gA g) s.heap H1 locs1 → W p g.1 e R s m args below meth c H1 locs1 (cs + mc) (ss + ms) Q (F0 m (pc + 3) ls ((r.map (tr g)).toList ++ rest))) : W p g.1 e R s m args below meth c H locs cs ss Q (F0 m pc ls st) := by
  subst hg
  intro T hT X
  obtain ⟨v, st₀, t, T', Lc, h0, X', hL, e1, e2, ⟨⟨r, w', hv, hp, hH'⟩, hz, hk⟩, stp⟩ := hr T hT X
  have hv' := Outcome.returned.inj hv
  subst hv'
  rw [h0] at hz hk
  obtain ⟨t2, a1, b1⟩ := kk r w' T'.heap (locs ++ Lc) hp (by rw [e1]; exact hH') ⟨Nat.le_trans hS.1 (by rw [e1]; exact hz), fun q h1 h2 => by rw [e1, hk q (Nat.lt_of_lt_of_le h1 hS.1) h2]; exact hS.2.1 q h1 h2, fun q hq => by
      rcases List.mem_append.mp hq with h | h
      · exact hS.2.2 q h
      · exact hL q h⟩ T' rfl X'
  exact ⟨t2, stp t2 a1, b1⟩
/-- a constructor of the law's -/
theorem w_mk {g : Gx} {cs ss pc nL : Nat} {p : Program} {e : Env} {R : Room} {s : State} {m : MethodId} {args : Array Value} {below : List Frame} {meth : Method} {c : Code} {Q : State → Prop} {H : Heap} {locs : List Loc} {ls : Array Slot} {cc : ByteArray} {own : String} (hx : p.tables.exec = Jvm.exec) (hb : c.code = cc) (hml : c.maxLocals = nL) (hown : s.vm.findClass own = some m.cls) (hts : ∀ w ∈ TS, w.before args s = true) {y : MethodName} {cy : ByteArray} {my : Nat} {rmy : Room} {n2 idx k : Nat} {Q0 : Wd → Prop} {Pc : Array Value → State → Prop} {rest : List Value} (hM : Met g.1 y (Cond.code y cy my none :: TS) rmy Pc (qc_ g n2 (R0q Q0)) rmy.cells rmy.slots (gA g)) (hbl : FrameBlind Pc) (hPc : ∀ U : State, U.heap = H → s.WarmedH U.vm → Pc ([Value.ref k] : List Value).toArray U) (hok : okI own idx y cy my 0) (hroom : rmy.frames + 1 ≤ R.frames ∧ 8 + (my + 11) + rmy.locals ≤ R.locals) (hcs : cs + rmy.cells ≤ R.cells ∧ ss + rmy.slots ≤ R.slots) (hW : (rest.map fun v => v.category).sum ≤ 8) (hd : decode cc pc = .ok (.invokespecial idx, 3)) (hls : ls.size = nL) (hS : va_S (gA g) s.heap H locs)
    (kk : ∀ w1 H1 locs1, Q0 w1 → HW g n2 w1 H1 → va_S (gA g) s.heap H1 locs1 → W p g.1 e R s m args below meth c H1 locs1 (cs + rmy.cells) (ss + rmy.slots) Q (F0 m (pc + 3) ls rest)) : W p g.1 e R s m args below meth c H locs cs ss Q (F0 m pc ls (.ref k :: rest)) := by
  obtain ⟨⟨hcd, hini, hdd⟩, hlink, hyi, hins⟩ := hok
  refine w_after (rest := rest) rfl (va_runI (As := []) (rest := rest) ⟨hx, hb, hml, hown, hts⟩ hM ⟨callB_of 0 hts (ts_goodIn hcd) rfl rfl rfl (hts _ hini) (hts _ hlink) hdd hroom, hyi, hts _ hins⟩ ⟨hbl, hPc⟩ rfl rfl hls rfl (lv_room hW) hd hcs) hS (fun r w' H1 locs1 h hH1 hS1 => ?_)
  obtain ⟨h1, h2⟩ := h
  subst h1
  exact kk _ _ _ h2 hH1 hS1
/-- the law's locals -/
abbrev lvL (g : Gx) (b i : Nat) : List (Nat × Value) := [(0, .ref b), (1, .ref g.2.2.2.1), (2, .ref (g.2.2.2.1 + 59)), (3, .int (nI i))]
def LF (g : Gx) (p : Program) (s : State) (m : MethodId) (meth : Method) (c : Code) (b L : Nat) (xs : Nat → Int32) : Prop := lw_At p s m meth c b L xs ∧ KK g s ∧ g.2.2.2.1 = s.heap.size ∧ L ≤ 2560
/-- the law stands at pc, behind i ints of the script -/
def WL (g : Gx) (p : Program) (e : Env) (s : State) (m : MethodId) (below : List Frame) (meth : Method) (c : Code) (b : Nat) (w : Wd) (pc i : Nat) (st : List Value) : Prop :=
  ∀ (H : Heap) (locs : List Loc) (ls : Array Slot), HW g 83 w H → va_S (gA g) s.heap H locs → lv_has ls 4 (lvL g b i) → W p g.1 e room_1 s m #[Value.ref b] below meth c H locs 83 7053 (lw_Z below #[Value.ref b] s) (F0 m pc ls st)
section LAW
variable {g : Gx} {p : Program} {e : Env} {s : State} {m : MethodId} {below : List Frame} {meth : Method} {c : Code} {b L : Nat} {xs : Nat → Int32} {w : Wd} {pc i : Nat} {st : List Value}
theorem wl_al1 (A : LF g p s m meth c b L xs) (hd : decode cL_law pc = .ok (.aload_n 1, 1)) (kk : WL g p e s m below meth c b w (pc + 1) (i) (.ref g.2.2.2.1 :: st)) : WL g p e s m below meth c b w (pc) (i) (st) := by
  obtain ⟨⟨hx, hb, hr, hml, hown, hts, hX, hbl, hlk, hgv⟩, hK, hbs, hL⟩ := A
  intro H locs ls hH hS hl
  exact lv_aload_n hx hb hd rfl (lv_at hl 1 rfl) (kk H locs ls hH hS hl)
theorem wl_al2 (A : LF g p s m meth c b L xs) (hd : decode cL_law pc = .ok (.aload_n 2, 1)) (kk : WL g p e s m below meth c b w (pc + 1) (i) (.ref (g.2.2.2.1 + 59) :: st)) : WL g p e s m below meth c b w (pc) (i) (st) := by
  obtain ⟨⟨hx, hb, hr, hml, hown, hts, hX, hbl, hlk, hgv⟩, hK, hbs, hL⟩ := A
  intro H locs ls hH hS hl
  exact lv_aload_n hx hb hd rfl (lv_at hl 2 rfl) (kk H locs ls hH hS hl)
theorem wl_arg (A : LF g p s m meth c b L xs) {k : Nat} {z : Int} (d0 : decode cL_law pc = .ok (.aload_n 0, 1)) (d1 : decode cL_law (pc + 1) = .ok (.iload_n 3, 1)) (d2 : decode cL_law (pc + 1 + 1) = .ok (.iconst z, 1)) (d3 : decode cL_law (pc + 1 + 1 + 1) = .ok (.iadd, 1)) (d4 : decode cL_law (pc + 1 + 1 + 1 + 1) = .ok (.iaload, 1)) (hz : Int32.ofInt z = nI k) (hi : i + k < L) (kk : WL g p e s m below meth c b w (pc + 1 + 1 + 1 + 1 + 1) (i) (.int (xs (i + k)) :: st)) : WL g p e s m below meth c b w (pc) (i) (st) := by
  obtain ⟨⟨hx, hb, hr, hml, hown, hts, hX, hbl, hlk, hgv⟩, hK, hbs, hL⟩ := A
  intro H locs ls hH hS hl
  have hbA : ¬ gA g b := by unfold gA; omega
  refine lv_aload_n hx hb d0 rfl (lv_at hl 0 rfl) ?_
  refine lv_iload_n hx hb d1 rfl (lv_at hl 3 rfl) ?_
  refine lv_iconst hx hb d2 hz ?_
  refine lv_iadd hx hb d3 ?_
  rw [nI_add]
  refine va_sld hx hb hX hbl hbA hS (vi_N hi (by omega)) d4 ?_
  rw [cl_N hi (by omega)]
  exact kk H locs ls hH hS hl
theorem wl_i2l (A : LF g p s m meth c b L xs) {a : Int32} (hd : decode cL_law pc = .ok (.i2l, 1)) (kk : WL g p e s m below meth c b w (pc + 1) (i) (.long a.toInt64 :: st)) : WL g p e s m below meth c b w (pc) (i) (.int a :: st) := by
  obtain ⟨⟨hx, hb, hr, hml, hown, hts, hX, hbl, hlk, hgv⟩, hK, hbs, hL⟩ := A
  intro H locs ls hH hS hl
  exact lv_i2l hx hb hd rfl (kk H locs ls hH hS hl)
theorem wl_bipush (A : LF g p s m meth c b L xs) {z : Int} {v : Int32} (hd : decode cL_law pc = .ok (.bipush z, 2)) (hv : (Int8.ofInt z).toInt32 = v) (kk : WL g p e s m below meth c b w (pc + 2) (i) (.int v :: st)) : WL g p e s m below meth c b w (pc) (i) (st) := by
  obtain ⟨⟨hx, hb, hr, hml, hown, hts, hX, hbl, hlk, hgv⟩, hK, hbs, hL⟩ := A
  intro H locs ls hH hS hl
  exact lv_bipush hx hb hd hv (kk H locs ls hH hS hl)
theorem wl_lshl (A : LF g p s m meth c b L xs) {a : Int64} {q : Int32} (hd : decode cL_law pc = .ok (.lshl, 1)) (kk : WL g p e s m below meth c b w (pc + 1) (i) (.long (a <<< (q.toInt64 &&& 63)) :: st)) : WL g p e s m below meth c b w (pc) (i) (.int q :: .long a :: st) := by
  obtain ⟨⟨hx, hb, hr, hml, hown, hts, hX, hbl, hlk, hgv⟩, hK, hbs, hL⟩ := A
  intro H locs ls hH hS hl
  exact lv_lshl hx hb hd rfl (kk H locs ls hH hS hl)
theorem wl_land (A : LF g p s m meth c b L xs) {a q : Int64} (hd : decode cL_law pc = .ok (.land, 1)) (kk : WL g p e s m below meth c b w (pc + 1) (i) (.long (a &&& q) :: st)) : WL g p e s m below meth c b w (pc) (i) (.long q :: .long a :: st) := by
  obtain ⟨⟨hx, hb, hr, hml, hown, hts, hX, hbl, hlk, hgv⟩, hK, hbs, hL⟩ := A
  intro H locs ls hH hS hl
  exact lv_land hx hb hd (kk H locs ls hH hS hl)
theorem wl_lor (A : LF g p s m meth c b L xs) {a q : Int64} (hd : decode cL_law pc = .ok (.lor, 1)) (kk : WL g p e s m below meth c b w (pc + 1) (i) (.long (a ||| q) :: st)) : WL g p e s m below meth c b w (pc) (i) (.long q :: .long a :: st) := by
  obtain ⟨⟨hx, hb, hr, hml, hown, hts, hX, hbl, hlk, hgv⟩, hK, hbs, hL⟩ := A
  intro H locs ls hH hS hl
  exact lv_lor hx hb hd (kk H locs ls hH hS hl)
theorem wl_ldc2 (A : LF g p s m meth c b L xs) {k : Nat} {v : Int64} (hc : Cond.constantLong RL k v ∈ TS) (hd : decode cL_law pc = .ok (.ldc2_w k, 3)) (kk : WL g p e s m below meth c b w (pc + 3) (i) (.long v :: st)) : WL g p e s m below meth c b w (pc) (i) (st) := by
  obtain ⟨⟨hx, hb, hr, hml, hown, hts, hX, hbl, hlk, hgv⟩, hK, hbs, hL⟩ := A
  intro H locs ls hH hS hl
  exact lv_ldc2 hx hb (own := RL) hown (hts _ (ts_lw hc)) hd (kk H locs ls hH hS hl)
theorem wl_eq (A : LF g p s m meth c b L xs) {v : Int32} {off : Int} (hd : decode cL_law pc = .ok (.if_icmp .eq off, 3)) (ht : (pc : Int) + off = ((827 : Nat) : Int)) (kk : WL g p e s m below meth c b w (827) (i) ([])) : WL g p e s m below meth c b w (pc) (i) ([.int v, .int v]) := by
  obtain ⟨⟨hx, hb, hr, hml, hown, hts, hX, hbl, hlk, hgv⟩, hK, hbs, hL⟩ := A
  intro H locs ls hH hS hl
  exact lv_icmp_eq hx hb hd ht (fun _ => kk H locs ls hH hS hl) (fun h => absurd rfl h)
theorem lg_same (v : Int64) : lg_cmp v v = 0 := by
  unfold lg_cmp
  split
  · rename_i h
    exact absurd (Int64.lt_iff_toInt_lt.mp h) (Int.lt_irrefl _)
  · split
    · rfl
    · rename_i h
      exact absurd rfl h
theorem wl_eql (A : LF g p s m meth c b L xs) {v : Int64} {off : Int} (hd1 : decode cL_law pc = .ok (.lcmp, 1)) (hd : decode cL_law (pc + 1) = .ok (.ifCond .eq off, 3)) (ht : ((pc + 1 : Nat) : Int) + off = ((827 : Nat) : Int)) (kk : WL g p e s m below meth c b w (827) (i) ([])) : WL g p e s m below meth c b w (pc) (i) ([.long v, .long v]) := by
  obtain ⟨⟨hx, hb, hr, hml, hown, hts, hX, hbl, hlk, hgv⟩, hK, hbs, hL⟩ := A
  intro H locs ls hH hS hl
  exact W.lcmp hx hb hd1 (lv_if_eq hx hb hd ht (fun _ => kk H locs ls hH hS hl) (fun h => absurd (lg_same v) h))
theorem wl_next (A : LF g p s m meth c b L xs) (kk : WL g p e s m below meth c b w (18) (i + 5) ([])) : WL g p e s m below meth c b w (827) (i) ([]) := by
  obtain ⟨⟨hx, hb, hr, hml, hown, hts, hX, hbl, hlk, hgv⟩, hK, hbs, hL⟩ := A
  intro H locs ls hH hS hl
  exact lv_iinc (v := nI (i + 5)) (k := 3) hx hb dL_law_827 hl rfl (by rw [show Int32.ofInt 5 = nI 5 by decide, nI_add]) (by decide) rfl (fun ls2 hl2 => lv_goto (tgt := 18) hx hb dL_law_830 (by decide) (kk H locs ls2 hH hS (lv_sub hl2 [1, 2, 3, 0] rfl)))
theorem wl_cV (A : LF g p s m meth c b L xs) {y : MethodName} {cy : ByteArray} {my : Nat} {ry : Option FieldType} {rmy : Room} {idx na : Nat} {v0 : Value} {Q0 : Wd → Prop} {as rest : List Value} {k ci : Nat} {fs : List Value} (hk : w k = ob ci fs) (hci : (cls_[ci]?).map Prod.fst = some y.cls) (hM : CT g y cy my ry rmy 83 83 w (.ref k :: as) (Rq v0 Q0)) (hok : okV RL idx y cy my ry na) (hroom : rmy.frames + 1 ≤ 9 ∧ 8 + (my + 11) + rmy.locals ≤ 334) (hz : rmy.cells = 0 ∧ rmy.slots = 0) (hn : as.length = na) (has : as.map (tr g) = as) (hv : tr g v0 = v0) (hst : st = as.reverse ++ .ref (g.2.2.2.1 + k) :: rest) (hW : (rest.map fun v => v.category).sum ≤ 8) (hd : decode cL_law pc = .ok (.invokevirtual idx, 3)) (kk : ∀ w1, Q0 w1 → WL g p e s m below meth c b w1 (pc + 3) (i) (v0 :: rest)) : WL g p e s m below meth c b w (pc) (i) (st) := by
  obtain ⟨⟨hx, hb, hr, hml, hown, hts, hX, hbl, hlk, hgv⟩, hK, hbs, hL⟩ := A
  intro H locs ls hH hS hl
  have hts : ∀ w ∈ TS, w.before #[Value.ref b] s = true := fun w h => hts w (ts_lw h)
  have hown : s.vm.findClass RL = some m.cls := hown
  subst hst
  obtain ⟨⟨hcd, hini, hdd⟩, hlink, hins, hsel⟩ := hok
  have hkn := hw_lt hH hk ob_dead
  have hadk : ad g k = g.2.2.2.1 + k := ad_lt g (Nat.lt_of_lt_of_le hkn hH.1)
  have hPc : ∀ U : State, U.heap = H → s.WarmedH U.vm → pc_ g 83 w (.ref k :: as) (Value.ref (g.2.2.2.1 + k) :: as).toArray U := fun U hU hW => ⟨by
    rw [List.map_cons, has]
    show _ = (Value.ref (ad g k) :: as).toArray
    rw [hadk], by rw [hU]; exact hH, KK.moved hW (fun q h1 h2 => by rw [hU]; exact hS.2.1 q h1 h2) hK⟩
  have hrec : ∃ cellB : Cell, H[g.2.2.2.1 + k]? = some cellB ∧ cellB.vm.isStatics = false ∧ s.vm.findClass y.cls = some cellB.cls := by
    cases hq : cls_[ci]? with
    | none => rw [hq] at hci; cases hci
    | some q =>
      rw [hq] at hci
      have hq1 : q.1 = y.cls := Option.some.inj hci
      have hat := hH.2.2.1 k hkn
      rw [hk] at hat
      have hP : va_P g.2.1 cls_ [(g.2.2.2.1 + k, ce g (ob ci fs))] H := fun i q hq => by
        match i, hq with
        | 0, hq => cases hq; exact hat
        | i + 1, hq => simp at hq
      have := va_recv (q0 := 0) hK.1 hP hq rfl
      rw [← hq1]
      exact this
  refine w_after (rest := rest) rfl (va_runV (As := as) (rest := rest) ⟨hx, hb, hml, hown, hts⟩ hM ⟨callB_of na hts (ts_goodIn hcd) rfl rfl rfl (hts _ hini) (hts _ hlink) hdd hroom, hts _ hins, hts _ hsel⟩ ⟨pc_blind, hrec, hPc⟩ rfl hn hl.1 rfl (lv_room hW) hd (by rw [hz.1, hz.2]; exact ⟨Nat.le_refl _, Nat.le_refl _⟩)) hS (fun r w' H1 locs1 h hH1 hS1 => ?_)
  obtain ⟨h1, h2⟩ := h
  subst h1
  rw [hz.1, hz.2]
  have := kk _ h2 H1 locs1 ls hH1 hS1 hl
  rw [show (Option.map (tr g) (some v0)).toList ++ rest = v0 :: rest by show tr g v0 :: rest = _; rw [hv]]
  exact this
end LAW
theorem CR.frm {w w1 : Wd} {t : Nat → Nat} {len : Nat} {h : Hs} {a : Ms} {kn : Nat} {k1 k2 : Ms} (e : CR w t len h a kn k1 k2) (hf : fr w w1 59 83) : CR w1 t len h a kn k1 k2 := by
  obtain ⟨hi, dr, pl, nm, h', p1, p2, ⟨c0, c1, c2, c3, c4, c5, c6, c7, c8, c9, c10⟩, q1, q2⟩ := e
  exact ⟨hi, dr, pl, nm, h', p1, p2, ⟨c0, (hf 0 (by omega)).trans c1, c2.frm hf (by omega), c3.frm2 hf (by omega), c4.frm2 hf (by omega), c5.frm hf (by omega), c6.frm hf (by omega), c7.frm hf (by omega), c8.frm hf (by omega), c9.frm hf (by omega), c10⟩, q1, q2⟩
theorem MR.frm {w w1 : Wd} {t : Nat → Nat} {len : Nat} {h : Hs} {a : Ms} {kn : Nat} {k1 k2 : Ms} (e : MR w t len h a kn k1 k2) (hf : fr w w1 0 59) : MR w1 t len h a kn k1 k2 := by
  obtain ⟨A, pl, hM, hR⟩ := e
  exact ⟨A, pl, hM.frm hf (by omega), hR⟩
theorem CR.ob {w : Wd} {t : Nat → Nat} {len : Nat} {h : Hs} {a : Ms} {kn : Nat} {k1 k2 : Ms} (e : CR w t len h a kn k1 k2) : ∃ fs, w 0 = ob 6 fs := by
  obtain ⟨hi, dr, pl, nm, h', p1, p2, ⟨c0, c1, c2⟩, q1, q2⟩ := e
  exact ⟨_, c1⟩
theorem MR.ob {w : Wd} {t : Nat → Nat} {len : Nat} {h : Hs} {a : Ms} {kn : Nat} {k1 k2 : Ms} (e : MR w t len h a kn k1 k2) : ∃ fs, w 59 = ob 7 fs := by
  obtain ⟨A, pl, hM, hR⟩ := e
  exact ⟨_, hM.1⟩
theorem CR.bd {w : Wd} {t : Nat → Nat} {len : Nat} {h : Hs} {a : Ms} {kn : Nat} {k1 k2 : Ms} (e : CR w t len h a kn k1 k2) (h1 : 1 ≤ h.2.2.2.1) (h2 : 1 ≤ h.2.2.2.2.2.2.2.2.2.1) (h3 : ∀ i, i < h.2.2.2.1 → 1 ≤ a.2.1 i) : Bd h a ∧ Bk kn k1 k2 ∧ ∀ j, t j < 256 := by
  obtain ⟨hi, dr, pl, nm, h', p1, p2, ⟨c0, c1, c2, c3, c4, c5, c6, c7, c8, c9, c10⟩, q1, q2⟩ := e
  obtain ⟨s1, s2, s3, s4, s5, s6, s7⟩ := c2
  obtain ⟨r1, r2, r3, r4, r5, r6, r7, r8, r9, r10, r11, r12, r13, r14, r15⟩ := c3
  obtain ⟨m1, ⟨n1, n2, n3, n4, n5, n6, n7, n8⟩, e1, e2, e3, e4⟩ := c5
  obtain ⟨i1, ⟨j1, j2, j3, j4, j5, j6, j7, j8⟩, f1, f2, f3, f4⟩ := c6
  obtain ⟨x1, ⟨y1, y2, y3, y4, y5, y6, y7, y8⟩, z1, z2, z3, z4⟩ := c7
  exact ⟨⟨⟨h1, n5⟩, ⟨h2, r13, r14, r15⟩, n6, n7, n8, h3, r8, r9, r10, r11, r12, e4, e3⟩, ⟨fun _ => ⟨j7, f3⟩, fun _ => ⟨y7, z3⟩⟩, s6⟩
/-- what else holds between calls -/
def Ex (h : Hs) (a : Ms) (kn : Nat) (k1 k2 : Ms) : Prop := 1 ≤ h.2.2.2.1 ∧ 1 ≤ h.2.2.2.2.2.2.2.2.2.1 ∧ (∀ i, i < h.2.2.2.1 → 1 ≤ a.2.1 i) ∧ (1 ≤ kn → ∀ i, i < h.2.2.2.1 → 1 ≤ k1.2.1 i) ∧ (2 ≤ kn → ∀ i, i < h.2.2.2.1 → 1 ≤ k2.2.1 i)
/-- the law's invariant: class and reference hold the same -/
def Iv (w : Wd) : Prop := ∃ (t : Nat → Nat) (len : Nat) (h : Hs) (a : Ms) (kn : Nat) (k1 k2 : Ms), CR w t len h a kn k1 k2 ∧ MR w t len h a kn k1 k2 ∧ Ex h a kn k1 k2
theorem Ex.now {h : Hs} {a a2 : Ms} {kn : Nat} {k1 k2 : Ms} (e : Ex h a kn k1 k2) (q : ∀ i, i < h.2.2.2.1 → 1 ≤ a2.2.1 i) : Ex h a2 kn k1 k2 := ⟨e.1, e.2.1, q, e.2.2.2⟩
theorem Ex.kind {h : Hs} {a : Ms} {kn : Nat} {k1 k2 : Ms} (e : Ex h a kn k1 k2) (i k : Int32) : Ex h (A_kind h a i k) kn k1 k2 := e.now (by
  unfold A_kind
  split
  · exact e.2.2.1
  · exact e.2.2.1)
theorem Ex.hear {h : Hs} {a : Ms} {kn : Nat} {k1 k2 : Ms} (e : Ex h a kn k1 k2) (s : Int32) : Ex h (A_hear a s) kn k1 k2 := e.now (by
  unfold A_hear
  split
  · exact e.2.2.1
  · exact e.2.2.1)
theorem dM_1 {M sh : Nat → Nat} {d i p : Nat} (h : ∀ j, j < p → 1 ≤ M j) : ∀ j, j < p → 1 ≤ dM M sh d i j := by
  intro j hj
  have h1 := h j hj
  unfold dM
  split
  · split
    · unfold gM
      split
      · by_cases c : j = i
        · rw [c, va_upd_self]; omega
        · rw [va_upd_ne _ _ c]; exact h1
      · exact h1
    · unfold lM
      split
      · by_cases c : j = i
        · rw [c, va_upd_self]; omega
        · rw [va_upd_ne _ _ c]; exact h1
      · exact h1
  · exact h1
theorem Ex.deed {h : Hs} {a : Ms} {kn : Nat} {k1 k2 : Ms} (e : Ex h a kn k1 k2) (i d : Int32) : Ex h (A_deed h a i d) kn k1 k2 := e.now (by
  unfold A_deed
  split
  · exact dM_1 e.2.2.1
  · exact e.2.2.1)
theorem Ex.keep {h : Hs} {a : Ms} {kn : Nat} {k1 k2 : Ms} (e : Ex h a kn k1 k2) : Ex h a (N_keep kn) (K1_keep a kn k1) (K2_keep a kn k2) := by
  obtain ⟨e1, e2, e3, e4, e5⟩ := e
  unfold N_keep K1_keep K2_keep
  refine ⟨e1, e2, e3, fun c i hi => ?_, fun c i hi => ?_⟩
  · split
    · exact e3 i hi
    · exact e4 (by split at c <;> omega) i hi
  · split
    · exact e3 i hi
    · exact e5 (by split at c <;> omega) i hi
theorem Ex.back {h : Hs} {a : Ms} {kn : Nat} {k1 k2 : Ms} (e : Ex h a kn k1 k2) (h2 : kn ≤ 2) : Ex h (A_back a kn k1 k2) (N_back kn) k1 k2 := by
  obtain ⟨e1, e2, e3, e4, e5⟩ := e
  unfold A_back N_back
  refine ⟨e1, e2, fun i hi => ?_, fun c => e4 (by split at c <;> omega), fun c => e5 (by split at c <;> omega)⟩
  split
  · split
    · exact e4 (by omega) i hi
    · exact e5 (by omega) i hi
  · exact e3 i hi
