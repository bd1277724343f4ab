/-! The pure world: cells by number (cell k lies at base + k; cell 1000 is the static row FIRST_NAME), and a walk over it. -/
abbrev Ce : Type := (Nat × Nat × (Nat → Int32)) ⊕ (Nat × List Value)
abbrev Wd : Type := Nat → Ce
/-- launch; class numbers and slots; the classes of int[], boolean[], byte[]; where the world begins; the static row -/
abbrev Gx : Type := Launch × va_G × (Nat → ClassId) × Nat × Nat
def gA (g : Gx) : Nat → Prop := fun q => g.2.2.2.1 ≤ q
def ad (g : Gx) (k : Nat) : Nat := if k = 1000 then g.2.2.2.2 else g.2.2.2.1 + k
def tr (g : Gx) (v : Value) : Value := match v with
  | .ref k => .ref (ad g k)
  | v => v
def ce (g : Gx) (c : Ce) : va_E := match c with
  | .inl (t, n, f) => .inl (g.2.2.1 t, n, .inl f)
  | .inr (c, fs) => .inr (c, fs.map (tr g))
abbrev ob (c : Nat) (fs : List Value) : Ce := .inr (c, fs)
abbrev ar (t n : Nat) (f : Nat → Int32) : Ce := .inl (t, n, f)
abbrev cls_ : List vw_C := [(RX0, TX0, 2), (RX1, TX1, 13), (RX2, TX2, 9), (RX3, TX3, 2), (RX4, TX4, 4), (RX5, TX5, 4), (RX6, TX6, 9), (RX7, TX7, 26)]
def tyl (g : Gx) : List (ClassId × FieldType) := [(g.2.2.1 0, .int), (g.2.2.1 1, .boolean), (g.2.2.1 2, .byte)]
def TS : List Cond := lw_tbl.filter goodWord
theorem ts_of {w : Cond} (h : w ∈ lw_tbl) (hg : goodWord w = true) : w ∈ TS := List.mem_filter.mpr ⟨h, hg⟩
theorem ts_good : ∀ w ∈ TS, goodWord w = true := fun _ h => (List.mem_filter.mp h).2
theorem ts_lw {w : Cond} (h : w ∈ TS) : w ∈ lw_tbl := (List.mem_filter.mp h).1
theorem ts_goodIn {w : Cond} (h : w ∈ TS) : GoodIn TS (w :: TS) := fun v hv => by
  rcases List.mem_cons.mp hv with rfl | hv
  · exact ⟨h, good_of_word (ts_good _ h)⟩
  · exact ⟨hv, good_of_word (ts_good _ hv)⟩
def nests : List Cond := [.methodLinkNest "DeedNames" 9 ⟨"DeedNames$Scroll", "<init>", "()V"⟩ "DeedNames", .methodLinkNest "DeedNames$Hill" 11 ⟨"DeedNames$Names", "<init>", "()V"⟩ "DeedNames", .methodLinkNest "DeedNames" 28 ⟨"DeedNames$Memory", "<init>", "()V"⟩ "DeedNames", .methodLinkNest "DeedNames$Memory" 9 ⟨"DeedNames$Names", "<init>", "()V"⟩ "DeedNames", .methodLinkNest "DeedNames$Memory" 18 ⟨"DeedNames$Ear", "<init>", "()V"⟩ "DeedNames", .methodLinkNest "DeedNames" 45 ⟨"DeedNames$Herald", "<init>", "()V"⟩ "DeedNames", .methodLinkNest "DeedNames" 52 ⟨"DeedNames$Names", "<init>", "()V"⟩ "DeedNames", .methodLinkNest "DeedNames$Hill" 51 ⟨"DeedNames", "within", "(III)Z"⟩ "DeedNames", .methodLinkNest "DeedNames$Scroll" 87 ⟨"DeedNames", "within", "(III)Z"⟩ "DeedNames", .methodLinkNest "DeedNames$Names" 48 ⟨"DeedNames", "within", "(III)Z"⟩ "DeedNames", .methodLinkNest "DeedNames$Herald" 84 ⟨"DeedNames", "isOf", "(II)Z"⟩ "DeedNames", .methodLinkNest "DeedNames$Herald" 80 ⟨"DeedNames", "within", "(III)Z"⟩ "DeedNames", .methodLinkNest "DeedNames$Names" 64 ⟨"DeedNames", "isOf", "(II)Z"⟩ "DeedNames"]
/-- what stands at numbers where no cell is -/
def dead : Ce := .inl (7, 0, fun _ => 0)
def HW (g : Gx) (n : Nat) (w : Wd) (H : Heap) : Prop := n ≤ 100 ∧ H.size = g.2.2.2.1 + n ∧ (∀ k, k < n → va_at g.2.1 cls_ (g.2.2.2.1 + k, ce g (w k)) H) ∧ ∀ k, n ≤ k → w k = dead
def KK (g : Gx) (U : State) : Prop := va_K g.2.1 cls_ (tyl g) U ∧ (∀ w ∈ nests, va_Nw w U) ∧ va_T .int g.2.2.2.2 2 (fun j => .int (nI j)) (gA g) U U.heap
def pc_ (g : Gx) (n : Nat) (w : Wd) (av : List Value) : Array Value → State → Prop := fun v U => v = (av.map (tr g)).toArray ∧ HW g n w U.heap ∧ KK g U
def qc_ (g : Gx) (n' : Nat) (Post : Option Value → Wd → Prop) : Array Value → State → Outcome → State → Prop := fun _ st oc t => (∃ (r : Option Value) (w' : Wd), oc = .returned (r.map (tr g)) ∧ Post r w' ∧ HW g n' w' t.heap) ∧ va_F (gA g) st t
/-- the contract of a method: called with these values in this world of n cells it returns, with Post of its answer and of the world of n' cells behind it -/
def CT (g : Gx) (y : MethodName) (cc : ByteArray) (mL : Nat) (rt : Option FieldType) (rm : Room) (n n' : Nat) (w : Wd) (av : List Value) (Post : Option Value → Wd → Prop) : Prop :=
  Met g.1 y (Cond.code y cc mL rt :: TS) rm (pc_ g n w av) (qc_ g n' Post) rm.cells rm.slots (gA g)
/-- what stands over a method's walk -/
abbrev Cx : Type := Program × Env × Room × State × MethodId × Array Value × List Frame × Method × Code × (State → Prop)
def lvl (g : Gx) (L : List (Option Value)) : List (Nat × Value) := (List.range L.length).filterMap (fun j => match L[j]? with
  | some (some v) => some (j, tr g v)
  | _ => none)
theorem mem_lvl {g : Gx} {L : List (Option Value)} {q : Nat × Value} : q ∈ lvl g L ↔ ∃ v, L[q.1]? = some (some v) ∧ q.2 = tr g v := by
  unfold lvl
  rw [List.mem_filterMap]
  constructor
  · rintro ⟨j, -, hj⟩
    split at hj
    · rename_i v hv
      cases hj
      exact ⟨v, hv, rfl⟩
    · cases hj
  · rintro ⟨v, hv, hq⟩
    refine ⟨q.1, ?_, ?_⟩
    · rw [List.mem_range]
      exact (List.getElem?_eq_some_iff.mp hv).1
    · rw [hv]
      show some (q.1, tr g v) = some q
      rw [← hq]
def WW (g : Gx) (x : Cx) (nL cs ss n : Nat) (w : Wd) (pc : Nat) (L : List (Option Value)) (st : List Value) : Prop :=
  ∀ (H : Heap) (locs : List Loc) (ls : Array Slot), HW g n w H → va_S (gA g) x.2.2.2.1.heap H locs → lv_has ls nL (lvl g L) →
    W x.1 g.1 x.2.1 x.2.2.1 x.2.2.2.1 x.2.2.2.2.1 x.2.2.2.2.2.1 x.2.2.2.2.2.2.1 x.2.2.2.2.2.2.2.1 x.2.2.2.2.2.2.2.2.1 H locs cs ss x.2.2.2.2.2.2.2.2.2 (F0 x.2.2.2.2.1 pc ls (st.map (tr g)))
/-- the facts over a walk -/
def Ck (g : Gx) (x : Cx) (cc : ByteArray) (nL : Nat) (own : String) (rt : Option FieldType) (rm : Room) (n' : Nat) (Post : Option Value → Wd → Prop) : Prop :=
  match x with
  | (p, e, R, s, m, args, below, meth, c, Q) => p.tables.exec = Jvm.exec ∧ c.code = cc ∧ c.maxLocals = nL ∧ meth.sig.returnType = rt ∧ meth.locks = false ∧ s.vm.findClass own = some m.cls ∧ (∀ w ∈ TS, w.before args s = true) ∧ KK g s ∧ R = rm ∧ g.2.2.2.1 ≤ s.heap.size ∧ Q = MQ below (qc_ g n' Post) args s rm.cells rm.slots (gA g)
def entL : List Value → List (Option Value)
  | [] => []
  | v :: t => if v.category = 2 then some v :: none :: entL t else some v :: entL t
theorem tr_cat (g : Gx) (v : Value) : (tr g v).category = v.category := by cases v <;> rfl
theorem ad_lt (g : Gx) {k : Nat} (h : k < 100) : ad g k = g.2.2.2.1 + k := if_neg (by omega)
theorem KK.moved {g : Gx} {u U : State} (hW : u.WarmedH U.vm) (hh : ∀ q, q < u.heap.size → ¬ gA g q → U.heap[q]? = u.heap[q]?) (h : KK g u) : KK g U := by
  obtain ⟨h1, h2, h3⟩ := h
  refine ⟨va_K.moved hW.alike h1, fun w hw => ?_, (va_T.moved hW.alike h3).kept hh⟩
  obtain ⟨i, y, hm⟩ : ∃ (q : String × Nat × String) (y : MethodName), w = .methodLinkNest q.1 q.2.1 y q.2.2 := by
    simp only [nests, List.mem_cons, List.not_mem_nil, or_false] at hw
    rcases hw with h | h | h | h | h | h | h | h | h | h | h | h | h <;> exact ⟨(_, _, _), _, h⟩
  have := h2 w hw
  rw [hm] at this ⊢
  exact va_Nw.warmM hW this
theorem pc_blind {g : Gx} {n : Nat} {w : Wd} {av : List Value} : FrameBlind (pc_ g n w av) := by
  intro a U fr mk ⟨h1, h2, h3, h4, h5⟩
  refine ⟨h1, h2, va_K.moved (u := U) (U := U.calling fr mk a) (Vm.Alike.refl U.vm) h3, fun v hv => ?_, va_T.moved (u := U) (U := U.calling fr mk a) (Vm.Alike.refl U.vm) h5⟩
  exact va_Nw.same (u := U) (by simp only [nests, List.mem_cons, List.not_mem_nil, or_false] at hv; rcases hv with h | h | h | h | h | h | h | h | h | h | h | h | h <;> (rw [h]; rfl)) rfl (h4 v hv)
theorem lv_args_ent (g : Gx) : ∀ (av : List Value) (i : Nat) (q : Nat × Value), (∃ v, (entL av)[q.1]? = some (some v) ∧ q.2 = tr g v) → (i + q.1, q.2) ∈ lv_args i (av.map (tr g))
  | [], i, q, ⟨v, hv, _⟩ => by simp [entL] at hv
  | v :: t, i, q, ⟨u, hu, hq⟩ => by
    unfold entL at hu
    simp only [List.map_cons, lv_args, tr_cat]
    by_cases hc : v.category = 2
    · rw [if_pos hc] at hu
      rw [if_pos hc]
      obtain ⟨j, z⟩ := q
      match j, hu with
      | 0, hu =>
        simp only [List.getElem?_cons_zero, Option.some.injEq] at hu
        subst hu
        simp at hq
        simp [hq]
      | 1, hu => simp at hu
      | j + 2, hu =>
        have := lv_args_ent g t (i + 2) (j, z) ⟨u, by simpa using hu, hq⟩
        refine List.mem_cons_of_mem _ ?_
        have e : i + (j + 2) = i + 2 + j := by omega
        rw [e]
        exact this
    · rw [if_neg hc] at hu
      rw [if_neg hc]
      obtain ⟨j, z⟩ := q
      match j, hu with
      | 0, hu =>
        simp only [List.getElem?_cons_zero, Option.some.injEq] at hu
        subst hu
        simp at hq
        simp [hq]
      | j + 1, hu =>
        have := lv_args_ent g t (i + 1) (j, z) ⟨u, by simpa using hu, hq⟩
        refine List.mem_cons_of_mem _ ?_
        have e : i + (j + 1) = i + 1 + j := by omega
        rw [e]
        exact this
theorem lg_sl_len (g : Gx) : ∀ av : List Value, (lg_sl (av.map (tr g))).length = (entL av).length
  | [] => rfl
  | v :: t => by
    have ih := lg_sl_len g t
    unfold entL
    by_cases hc : v.category = 2
    · rw [if_pos hc]
      have ih' : (List.map ((fun a => (if a.category = 2 then [Slot.val a, Slot.second] else [Slot.val a]).length) ∘ tr g) t).sum = (entL t).length := by simpa [lg_sl] using ih
      simp [lg_sl, tr_cat, hc, ih']
    · rw [if_neg hc]
      have ih' : (List.map ((fun a => (if a.category = 2 then [Slot.val a, Slot.second] else [Slot.val a]).length) ∘ tr g) t).sum = (entL t).length := by simpa [lg_sl] using ih
      simp [lg_sl, tr_cat, hc, ih']
/-- a method's contract out of its walk -/
theorem CT.start {g : Gx} {y : MethodName} {cc : ByteArray} {mL : Nat} {rt : Option FieldType} {rm : Room} {n n' : Nat} {w : Wd} {av : List Value} {Post : Option Value → Wd → Prop} (L : List (Option Value)) (hy : plainName y.cls = true) (hL : entL av ++ List.replicate (mL - (entL av).length) none = L) (hl : (entL av).length ≤ mL)
    (body : ∀ x : Cx, Ck g x cc mL y.cls rt rm n' Post → x.2.2.2.2.2.2.2.1.name = y.name → WW g x mL 0 0 n w 0 L []) : CT g y cc mL rt rm n n' w av Post := by
  refine Met.ofW (cc := cc) (maxL := mL) (ret := rt) hy rfl ?_
  intro p e s m args below meth c s₁ B hml hv
  obtain ⟨rfl, hH, hK⟩ := hv
  have hts := atoms_spec (ws := Cond.code y cc mL rt :: TS) B.pre
  have hbody := body (p, e, rm, s, m, (av.map (tr g)).toArray, below, meth, c, MQ below (qc_ g n' Post) (av.map (tr g)).toArray s rm.cells rm.slots (gA g)) ⟨B.exec, B.bytes, hml, B.returns, B.notSynchronized, findClass_of_methodNamed B.named, fun w hw => hts w (List.mem_cons_of_mem _ hw), hK, rfl, by rw [hH.2.1]; exact Nat.le_add_right _ _, rfl⟩ (name_of_methodNamed B.named B.method).1
  have hl0 := lv_entry (av.map (tr g)) (n := mL) (by rw [lg_sl_len]; exact hl)
  rw [lg_entry_eq]
  refine hbody s.heap [] _ hH va_S.rf ⟨hl0.1, hl0.2.1, fun q hq => hl0.2.2 q ?_⟩
  obtain ⟨v, hv, hq2⟩ := mem_lvl.mp hq
  have hlt : (entL av)[q.1]? = some (some v) := by
    rw [← hL] at hv
    by_cases hi : q.1 < (entL av).length
    · rw [List.getElem?_append_left hi] at hv
      exact hv
    · rw [List.getElem?_append_right (by omega)] at hv
      have := List.mem_of_getElem? hv
      simp at this
  have := lv_args_ent g av 0 q ⟨v, hlt, hq2⟩
  rwa [Nat.zero_add] at this
