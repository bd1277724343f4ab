theorem hw_lt {g : Gx} {n k : Nat} {w : Wd} {H : Heap} {c : Ce} (hH : HW g n w H) (hk : w k = c) (hc : ¬ c = dead) : k < n := by
  rcases Nat.lt_or_ge k n with h | h
  · exact h
  · exact absurd (hk.symm.trans (hH.2.2.2 k h)) hc
theorem ob_dead {c : Nat} {fs : List Value} : ¬ ob c fs = dead := fun h => by cases h
theorem ar_dead {t m : Nat} {f : Nat → Int32} (h : ¬ t = 7) : ¬ ar t m f = dead := fun e => by
  have := Sum.inl.inj e
  exact h (congrArg Prod.fst this)
theorem va_upd_self {α : Type} (f : Nat → α) (k : Nat) (v : α) : va_up f k v k = v := if_pos rfl
theorem va_upd_ne {α : Type} (f : Nat → α) {k j : Nat} (v : α) (h : ¬ j = k) : va_up f k v j = f j := if_neg h
theorem HW.set {g : Gx} {n k : Nat} {w : Wd} {H H1 : Heap} {e : Ce} (hH : HW g n w H) (hk : k < n) (hz : H1.size = H.size) (oq : ∀ q : Nat, q ≠ g.2.2.2.1 + k → H1[q]? = H[q]?) (he : va_at g.2.1 cls_ (g.2.2.2.1 + k, ce g e) H1) : HW g n (va_up w k e) H1 := by
  refine ⟨hH.1, hz.trans hH.2.1, fun j hj => ?_, fun j hj => ?_⟩
  · by_cases hjk : j = k
    · subst hjk
      rw [va_upd_self]
      exact he
    · rw [va_upd_ne _ _ hjk]
      exact (hH.2.2.1 j hj).kept (oq _ (by show ¬ _ = _; omega))
  · rw [va_upd_ne _ _ (by omega)]
    exact hH.2.2.2 j hj
/-- a field: by which instruction's index it is reached, which class and place, final or not, its type -/
def FL (own : String) (idx ci j : Nat) (fin : Bool) (tj : FieldType) : Prop := ∃ (Cn : String) (T : u_T) (N : Nat) (ty : Nat → FieldType), cls_[ci]? = some (Cn, T, N) ∧ j < N ∧ (∀ w ∈ u_ws Cn T N, w ∈ TS) ∧ (∀ k, k < N → parseFieldDescriptor (T k).2.2.1 = some (ty k)) ∧ (∀ a, a < N → ∀ b, b < N → a ≠ b → (T a).2.1 ≠ (T b).2.1) ∧ Cond.fieldLink own idx (T j).1 (T j).2.1 (T j).2.2.1 ∈ TS ∧ (T j).2.2.2 = fin ∧ ty j = tj ∧ (T j).1 = Cn
section HEAP
variable {g : Gx} {x : Cx} {cc : ByteArray} {nL : Nat} {own : String} {rt : Option FieldType} {rm : Room} {n' : Nat} {Post : Option Value → Wd → Prop} {cs ss n : Nat} {w : Wd} {pc : Nat} {L : List (Option Value)} {st : List Value}
theorem ww_getf (C : Ck g x cc nL own rt rm n' Post) {idx ci j k : Nat} {fin : Bool} {tj : FieldType} {fs : List Value} {v : Value} (F : FL own idx ci j fin tj) (hk : w k = ob ci fs) (hv : fs[j]? = some v) (hd : decode cc pc = .ok (.getfield idx, 3)) (kk : WW g x nL cs ss n w (pc + 3) L (v :: st)) : WW g x nL cs ss n w pc L (.ref k :: st) := by
  obtain ⟨p, e, R, s, m, args, below, meth, c, Q⟩ := x
  obtain ⟨hx, hb, hml, hr, hlk, hown, hts, hK, hR, hbs, hQ⟩ := C
  obtain ⟨Cn, T, N, ty, hc, hj, hin, hty, hnm, hlink, hfin, htj, hcn⟩ := F
  intro H locs ls hH hS hl
  have hkn := hw_lt hH hk ob_dead
  have hat := hH.2.2.1 k hkn
  rw [hk] at hat
  have hP : va_P g.2.1 cls_ [(g.2.2.2.1 + k, ce g (ob ci fs))] H := fun i q hq => by
    match i, hq with
    | 0, hq => cases hq; exact hat
    | i + 1, hq => simp at hq
  show W _ _ _ _ _ _ _ _ _ _ _ _ _ _ _ (F0 _ pc ls (.ref (ad g k) :: st.map (tr g)))
  rw [ad_lt g (Nat.lt_of_lt_of_le hkn hH.1)]
  exact va_get (fs := fs.map (tr g)) hx hb hts hin hown hK.1 hP 0 rfl hc j hj (hts _ hlink) (fun _ h => h) (v := tr g v) (by rw [List.getElem?_map, hv]; rfl) hd (kk H locs ls hH hS hl)
theorem ww_putf (C : Ck g x cc nL own rt rm n' Post) {idx ci j k : Nat} {tj : FieldType} {fs : List Value} {v : Value} (F : FL own idx ci j false tj) (hk : w k = ob ci fs) (hl0 : j < fs.length) (hn : narrow tj (tr g v) = tr g v) (hf : fits tj (tr g v) = true) (hd : decode cc pc = .ok (.putfield idx, 3)) (kk : WW g x nL cs ss n (va_up w k (ob ci (fs.set j v))) (pc + 3) L st) : WW g x nL cs ss n w pc L (v :: .ref k :: st) := by
  obtain ⟨p, e, R, s, m, args, below, meth, c, Q⟩ := x
  obtain ⟨hx, hb, hml, hr, hlk, hown, hts, hK, hR, hbs, hQ⟩ := C
  obtain ⟨Cn, T, N, ty, hc, hj, hin, hty, hnm, hlink, hfin, htj, hcn⟩ := F
  intro H locs ls hH hS hl
  have hkn := hw_lt hH hk ob_dead
  have hat := hH.2.2.1 k hkn
  rw [hk] at hat
  subst htj
  show W _ _ _ _ _ _ _ _ _ _ _ _ _ _ _ (F0 _ pc ls (tr g v :: .ref (ad g k) :: st.map (tr g)))
  rw [ad_lt g (Nat.lt_of_lt_of_le hkn hH.1)]
  have hap := va_apart (own := own) hts hin ty hty hnm hK.1 hc
  obtain ⟨r, h1, cell, q1, q2, q3, q4⟩ := hat
  have hr2 : r = (Cn, T, N) := Option.some.inj (h1.symm.trans hc)
  subst hr2
  obtain ⟨hSl, hfc, kC, hkC, hkind⟩ := hK.1.1 ci _ hc
  obtain ⟨cf, kf, fi, f, hi, hsl⟩ := hSl j hj
  have hlay := hts _ (hin _ (u_in_lay hj))
  unfold u_lay at hlay
  rw [if_neg (by rw [hfin]; decide)] at hlay
  have hst := (u_facts hfc hkC (u_lays hts hin hj) hi).1
  have h6 := u_store hfc hkC hkind hlay hi (hty j hj) hn hf
  refine W.putK hx hb (f := f) ⟨hown, hts _ hlink, ⟨_, _, _, hi⟩, hst⟩ (by rw [q2]; exact h6) q1 q3 (by rw [hsl]; exact k2_hasslot (q4 j hj)) rfl rfl hd fun H' e1 e2 e3 => ?_
  rw [hsl] at e1 ⊢
  refine kk H' _ ls (hH.set hkn e2 e3 ⟨_, hc, ?_⟩) (hS.put e2 e3 (Nat.le_add_right _ _)) hl
  have hm : (fs.set j v).map (tr g) = (fs.map (tr g)).set j (tr g v) := List.map_set
  show t_OB _ _ _ _ _ (vp_V ((fs.set j v).map (tr g)))
  rw [hm]
  exact t_OB.to (V := updV (vp_V (fs.map (tr g))) j (tr g v)) ⟨_, e1, q2, q3, t_set q4 hap hj (tr g v)⟩ (fun i _ => vp_updV_set (by rw [List.length_map]; exact hl0) (tr g v) i)
theorem ww_putF (C : Ck g x cc nL own rt rm n' Post) (hin2 : x.2.2.2.2.2.2.2.1.name = "<init>") {idx ci j k : Nat} {tj : FieldType} {fs : List Value} {v : Value} (F : FL own idx ci j true tj) (hcl : (cls_[ci]?).map Prod.fst = some own) (hk : w k = ob ci fs) (hl0 : j < fs.length) (hn : narrow tj (tr g v) = tr g v) (hf : fits tj (tr g v) = true) (hd : decode cc pc = .ok (.putfield idx, 3)) (kk : WW g x nL cs ss n (va_up w k (ob ci (fs.set j v))) (pc + 3) L st) : WW g x nL cs ss n w pc L (v :: .ref k :: st) := by
  obtain ⟨p, e, R, s, m, args, below, meth, c, Q⟩ := x
  obtain ⟨hx, hb, hml, hr, hlk, hown, hts, hK, hR, hbs, hQ⟩ := C
  obtain ⟨Cn, T, N, ty, hc, hj, hin, hty, hnm, hlink, hfin, htj, hcn⟩ := F
  intro H locs ls hH hS hl
  have hkn := hw_lt hH hk ob_dead
  have hat := hH.2.2.1 k hkn
  rw [hk] at hat
  subst htj
  rw [hc] at hcl
  have hown2 : Cn = own := Option.some.inj hcl
  show W _ _ _ _ _ _ _ _ _ _ _ _ _ _ _ (F0 _ pc ls (tr g v :: .ref (ad g k) :: st.map (tr g)))
  rw [ad_lt g (Nat.lt_of_lt_of_le hkn hH.1)]
  have hap := va_apart (own := own) hts hin ty hty hnm hK.1 hc
  obtain ⟨r, h1, cell, q1, q2, q3, q4⟩ := hat
  have hr2 : r = (Cn, T, N) := Option.some.inj (h1.symm.trans hc)
  subst hr2
  obtain ⟨hSl, hfc, kC, hkC, hkind⟩ := hK.1.1 ci _ hc
  obtain ⟨cf, kf, fi, f, hi, hsl⟩ := hSl j hj
  have hlay := hts _ (hin _ (u_in_lay hj))
  unfold u_lay at hlay
  rw [if_pos hfin] at hlay
  have hst := (u_facts hfc hkC (u_lays hts hin hj) hi).1
  have hcf : m.cls = cf := by
    obtain ⟨_, _, c', _, _, _, -, -, hf', -, -, -, hw2, -⟩ := Cond.laysFinal_spec hlay
    have e1 : c' = cf := by have := hi.symm.trans hf'; simp at this; exact this.1.symm
    rw [hcn, hown2] at hw2
    rw [← e1]; exact Option.some.inj (hown.symm.trans hw2)
  have h6 := u_fits hfc hkC hkind (Or.inr hlay) hi (hty j hj) hn hf
  refine W.putFinK hx hb hown (hts _ hlink) hi hst hcf hin2 (by rw [q2]; exact h6) q1 q3 (by rw [hsl]; exact k2_hasslot (q4 j hj)) rfl rfl hd fun H' e1 e2 e3 => ?_
  rw [hsl] at e1 ⊢
  refine kk H' _ ls (hH.set hkn e2 e3 ⟨_, hc, ?_⟩) (hS.put e2 e3 (Nat.le_add_right _ _)) hl
  have hm : (fs.set j v).map (tr g) = (fs.map (tr g)).set j (tr g v) := List.map_set
  show t_OB _ _ _ _ _ (vp_V ((fs.set j v).map (tr g)))
  rw [hm]
  exact t_OB.to (V := updV (vp_V (fs.map (tr g))) j (tr g v)) ⟨_, e1, q2, q3, t_set q4 hap hj (tr g v)⟩ (fun i _ => vp_updV_set (by rw [List.length_map]; exact hl0) (tr g v) i)
theorem ww_iald (C : Ck g x cc nL own rt rm n' Post) {k m0 : Nat} {f : Nat → Int32} {i : Int32} (hk : w k = ar 0 m0 f) (hin : vp_in i m0) (hd : decode cc pc = .ok (.iaload, 1)) (kk : WW g x nL cs ss n w (pc + 1) L (.int (f i.toNatClampNeg) :: st)) : WW g x nL cs ss n w pc L (.int i :: .ref k :: st) := by
  obtain ⟨p, e, R, s, m, args, below, meth, c, Q⟩ := x
  obtain ⟨hx, hb, hml, hr, hlk, hown, hts, hK, hR, hbs, hQ⟩ := C
  intro H locs ls hH hS hl
  have hkn := hw_lt hH hk (ar_dead (by decide))
  have hat := hH.2.2.1 k hkn
  rw [hk] at hat
  have hP : va_P g.2.1 cls_ [(g.2.2.2.1 + k, ce g (ar 0 m0 f))] H := fun i q hq => by
    match i, hq with
    | 0, hq => cases hq; exact hat
    | i + 1, hq => simp at hq
  show W _ _ _ _ _ _ _ _ _ _ _ _ _ _ _ (F0 _ pc ls (.int i :: .ref (ad g k) :: st.map (tr g)))
  rw [ad_lt g (Nat.lt_of_lt_of_le hkn hH.1)]
  exact va_iald hx hb hK.1 hP 0 0 rfl rfl hin hd (kk H locs ls hH hS hl)
theorem ww_zald (C : Ck g x cc nL own rt rm n' Post) {k m0 : Nat} {f : Nat → Int32} {i : Int32} (hk : w k = ar 1 m0 f) (hin : vp_in i m0) (hd : decode cc pc = .ok (.baload, 1)) (kk : WW g x nL cs ss n w (pc + 1) L (.int (f i.toNatClampNeg) :: st)) : WW g x nL cs ss n w pc L (.int i :: .ref k :: st) := by
  obtain ⟨p, e, R, s, m, args, below, meth, c, Q⟩ := x
  obtain ⟨hx, hb, hml, hr, hlk, hown, hts, hK, hR, hbs, hQ⟩ := C
  intro H locs ls hH hS hl
  have hkn := hw_lt hH hk (ar_dead (by decide))
  have hat := hH.2.2.1 k hkn
  rw [hk] at hat
  have hP : va_P g.2.1 cls_ [(g.2.2.2.1 + k, ce g (ar 1 m0 f))] H := fun i q hq => by
    match i, hq with
    | 0, hq => cases hq; exact hat
    | i + 1, hq => simp at hq
  show W _ _ _ _ _ _ _ _ _ _ _ _ _ _ _ (F0 _ pc ls (.int i :: .ref (ad g k) :: st.map (tr g)))
  rw [ad_lt g (Nat.lt_of_lt_of_le hkn hH.1)]
  exact va_zald hx hb hK.1 hP 0 1 rfl rfl hin hd (kk H locs ls hH hS hl)
theorem ww_bald (C : Ck g x cc nL own rt rm n' Post) {k m0 : Nat} {f : Nat → Int32} {i : Int32} (hk : w k = ar 2 m0 f) (hin : vp_in i m0) (hd : decode cc pc = .ok (.baload, 1)) (kk : WW g x nL cs ss n w (pc + 1) L (.int (f i.toNatClampNeg) :: st)) : WW g x nL cs ss n w pc L (.int i :: .ref k :: st) := by
  obtain ⟨p, e, R, s, m, args, below, meth, c, Q⟩ := x
  obtain ⟨hx, hb, hml, hr, hlk, hown, hts, hK, hR, hbs, hQ⟩ := C
  intro H locs ls hH hS hl
  have hkn := hw_lt hH hk (ar_dead (by decide))
  have hat := hH.2.2.1 k hkn
  rw [hk] at hat
  have hP : va_P g.2.1 cls_ [(g.2.2.2.1 + k, ce g (ar 2 m0 f))] H := fun i q hq => by
    match i, hq with
    | 0, hq => cases hq; exact hat
    | i + 1, hq => simp at hq
  show W _ _ _ _ _ _ _ _ _ _ _ _ _ _ _ (F0 _ pc ls (.int i :: .ref (ad g k) :: st.map (tr g)))
  rw [ad_lt g (Nat.lt_of_lt_of_le hkn hH.1)]
  exact va_bald hx hb hK.1 hP 0 2 rfl rfl hin hd (kk H locs ls hH hS hl)
/-- the static row, read -/
theorem ww_sald (C : Ck g x cc nL own rt rm n' Post) {i : Int32} (hin : vp_in i 2) (hd : decode cc pc = .ok (.iaload, 1)) (kk : WW g x nL cs ss n w (pc + 1) L (.int (nI i.toNatClampNeg) :: st)) : WW g x nL cs ss n w pc L (.int i :: .ref 1000 :: st) := by
  obtain ⟨p, e, R, s, m, args, below, meth, c, Q⟩ := x
  obtain ⟨hx, hb, hml, hr, hlk, hown, hts, hK, hR, hbs, hQ⟩ := C
  intro H locs ls hH hS hl
  exact va_ti hx hb hK.2.2 hS hin rfl hd (kk H locs ls hH hS hl)
theorem ww_slen (C : Ck g x cc nL own rt rm n' Post) (hd : decode cc pc = .ok (.arraylength, 1)) (kk : WW g x nL cs ss n w (pc + 1) L (.int (nI 2) :: st)) : WW g x nL cs ss n w pc L (.ref 1000 :: st) := by
  obtain ⟨p, e, R, s, m, args, below, meth, c, Q⟩ := x
  obtain ⟨hx, hb, hml, hr, hlk, hown, hts, hK, hR, hbs, hQ⟩ := C
  intro H locs ls hH hS hl
  exact va_tlen hx hb hK.2.2 hS rfl hd (kk H locs ls hH hS hl)
theorem ww_alen (C : Ck g x cc nL own rt rm n' Post) {k m0 : Nat} {f : Nat → Int32} (hk : w k = ar 0 m0 f) (hd : decode cc pc = .ok (.arraylength, 1)) (kk : WW g x nL cs ss n w (pc + 1) L (.int (nI m0) :: st)) : WW g x nL cs ss n w pc L (.ref k :: st) := by
  obtain ⟨p, e, R, s, m, args, below, meth, c, Q⟩ := x
  obtain ⟨hx, hb, hml, hr, hlk, hown, hts, hK, hR, hbs, hQ⟩ := C
  intro H locs ls hH hS hl
  have hkn := hw_lt hH hk (ar_dead (by decide))
  have hat := hH.2.2.1 k hkn
  rw [hk] at hat
  have hP : va_P g.2.1 cls_ [(g.2.2.2.1 + k, ce g (ar 0 m0 f))] H := fun i q hq => by
    match i, hq with
    | 0, hq => cases hq; exact hat
    | i + 1, hq => simp at hq
  show W _ _ _ _ _ _ _ _ _ _ _ _ _ _ _ (F0 _ pc ls (.ref (ad g k) :: st.map (tr g)))
  rw [ad_lt g (Nat.lt_of_lt_of_le hkn hH.1)]
  exact va_alen hx hb hK.1 hP 0 0 rfl rfl rfl hd (kk H locs ls hH hS hl)
theorem ww_iast (C : Ck g x cc nL own rt rm n' Post) {k m0 : Nat} {f : Nat → Int32} {i z : Int32} (hk : w k = ar 0 m0 f) (hin : vp_in i m0) (hd : decode cc pc = .ok (.iastore, 1)) (kk : WW g x nL cs ss n (va_up w k (ar 0 m0 (upd f i.toNatClampNeg z))) (pc + 1) L st) : WW g x nL cs ss n w pc L (.int z :: .int i :: .ref k :: st) := by
  obtain ⟨p, e, R, s, m, args, below, meth, c, Q⟩ := x
  obtain ⟨hx, hb, hml, hr, hlk, hown, hts, hK, hR, hbs, hQ⟩ := C
  intro H locs ls hH hS hl
  have hkn := hw_lt hH hk (ar_dead (by decide))
  have hat := hH.2.2.1 k hkn
  rw [hk] at hat
  show W _ _ _ _ _ _ _ _ _ _ _ _ _ _ _ (F0 _ pc ls (.int z :: .int i :: .ref (ad g k) :: st.map (tr g)))
  rw [ad_lt g (Nat.lt_of_lt_of_le hkn hH.1)]
  have hat2 : H[g.2.2.2.1 + k]? = some (arrV (g.2.2.1 0) m0 (fun j => .int (f j))) := hat
  refine W.iast hx hb hat2 ((hK.1.2 0 _ rfl).1 m0 (fun j => .int (f j))) (fun q => by cases q) (by rw [arrV_size]; exact hin) rfl rfl hd fun H1 e1 e2 e3 => ?_
  refine kk H1 _ ls (hH.set hkn e2 e3 ?_) (hS.put e2 e3 (Nat.le_add_right _ _)) hl
  show H1[g.2.2.2.1 + k]? = some (arrV (g.2.2.1 0) m0 (fun j => .int (upd f i.toNatClampNeg z j)))
  rw [e1, arrV_store]
  congr 2
  funext q
  by_cases hq : q = i.toNatClampNeg <;> simp [updV, upd, hq]
theorem ww_zast (C : Ck g x cc nL own rt rm n' Post) {k m0 : Nat} {f : Nat → Int32} {i z : Int32} (hk : w k = ar 1 m0 f) (hin : vp_in i m0) (hd : decode cc pc = .ok (.bastore, 1)) (kk : WW g x nL cs ss n (va_up w k (ar 1 m0 (upd f i.toNatClampNeg (vp_nar .boolean z)))) (pc + 1) L st) : WW g x nL cs ss n w pc L (.int z :: .int i :: .ref k :: st) := by
  obtain ⟨p, e, R, s, m, args, below, meth, c, Q⟩ := x
  obtain ⟨hx, hb, hml, hr, hlk, hown, hts, hK, hR, hbs, hQ⟩ := C
  intro H locs ls hH hS hl
  have hkn := hw_lt hH hk (ar_dead (by decide))
  have hat := hH.2.2.1 k hkn
  rw [hk] at hat
  show W _ _ _ _ _ _ _ _ _ _ _ _ _ _ _ (F0 _ pc ls (.int z :: .int i :: .ref (ad g k) :: st.map (tr g)))
  rw [ad_lt g (Nat.lt_of_lt_of_le hkn hH.1)]
  have hat2 : H[g.2.2.2.1 + k]? = some (arrV (g.2.2.1 1) m0 (fun j => .int (f j))) := hat
  refine W.zast hx hb hat2 ((hK.1.2 1 _ rfl).1 m0 (fun j => .int (f j))) (fun q => by cases q) (by rw [arrV_size]; exact hin) rfl rfl hd fun H1 e1 e2 e3 => ?_
  refine kk H1 _ ls (hH.set hkn e2 e3 ?_) (hS.put e2 e3 (Nat.le_add_right _ _)) hl
  show H1[g.2.2.2.1 + k]? = some (arrV (g.2.2.1 1) m0 (fun j => .int (upd f i.toNatClampNeg (vp_nar .boolean z) j)))
  rw [e1, arrV_store]
  congr 2
  funext q
  by_cases hq : q = i.toNatClampNeg
  · subst hq
    simp [updV, upd, vp_nar]
    try rfl
  · simp [updV, upd, hq]
theorem ww_bast (C : Ck g x cc nL own rt rm n' Post) {k m0 : Nat} {f : Nat → Int32} {i z : Int32} (hk : w k = ar 2 m0 f) (hin : vp_in i m0) (hd : decode cc pc = .ok (.bastore, 1)) (kk : WW g x nL cs ss n (va_up w k (ar 2 m0 (upd f i.toNatClampNeg (vp_nar .byte z)))) (pc + 1) L st) : WW g x nL cs ss n w pc L (.int z :: .int i :: .ref k :: st) := by
  obtain ⟨p, e, R, s, m, args, below, meth, c, Q⟩ := x
  obtain ⟨hx, hb, hml, hr, hlk, hown, hts, hK, hR, hbs, hQ⟩ := C
  intro H locs ls hH hS hl
  have hkn := hw_lt hH hk (ar_dead (by decide))
  have hat := hH.2.2.1 k hkn
  rw [hk] at hat
  show W _ _ _ _ _ _ _ _ _ _ _ _ _ _ _ (F0 _ pc ls (.int z :: .int i :: .ref (ad g k) :: st.map (tr g)))
  rw [ad_lt g (Nat.lt_of_lt_of_le hkn hH.1)]
  have hat2 : H[g.2.2.2.1 + k]? = some (arrV (g.2.2.1 2) m0 (fun j => .int (f j))) := hat
  refine W.bast hx hb hat2 ((hK.1.2 2 _ rfl).1 m0 (fun j => .int (f j))) (fun q => by cases q) (by rw [arrV_size]; exact hin) rfl rfl hd fun H1 e1 e2 e3 => ?_
  refine kk H1 _ ls (hH.set hkn e2 e3 ?_) (hS.put e2 e3 (Nat.le_add_right _ _)) hl
  show H1[g.2.2.2.1 + k]? = some (arrV (g.2.2.1 2) m0 (fun j => .int (upd f i.toNatClampNeg (vp_nar .byte z) j)))
  rw [e1, arrV_store]
  congr 2
  funext q
  by_cases hq : q = i.toNatClampNeg
  · subst hq
    simp [updV, upd, vp_nar]
    try rfl
  · simp [updV, upd, hq]
/-- System.arraycopy of whole int rows from their beginning -/
theorem ww_copy (C : Ck g x cc nL own rt rm n' Post) {idx k j m0 m1 : Nat} {f h : Nat → Int32} {N : Int32} (hl1 : Cond.methodLink own idx arraycopyName ∈ TS) (hl2 : Cond.native arraycopyName ∈ TS) (hl3 : Cond.static arraycopyName ∈ TS) (hl4 : Cond.initialized "java/lang/System" ∈ TS) (hk : w k = ar 0 m0 f) (hj : w j = ar 0 m1 h) (hN : ¬ N < 0) (h0 : N.toNatClampNeg ≤ m0) (h1 : N.toNatClampNeg ≤ m1)
    (hfr : 1 ≤ rm.frames) (hlo : (st.map fun v => v.category).sum + (nativeFrameWords "java/lang/System" "arraycopy" 5 + 11) ≤ rm.locals) (hd : decode cc pc = .ok (.invokestatic idx, 3)) (kk : WW g x nL cs ss n (va_up w j (ar 0 m1 (va_cpy f h 0 0 N.toNatClampNeg))) (pc + 3) L st) : WW g x nL cs ss n w pc L (.int N :: .int 0 :: .ref j :: .int 0 :: .ref k :: st) := by
  obtain ⟨p, e, R, s, m, args, below, meth, c, Q⟩ := x
  obtain ⟨hx, hb, hml, hr, hlk, hown, hts, hK, hR, hbs, hQ⟩ := C
  intro H locs ls hH hS hl
  have hkn := hw_lt hH hk (ar_dead (by decide))
  have hjn := hw_lt hH hj (ar_dead (by decide))
  have hat := hH.2.2.1 k hkn
  have hbt := hH.2.2.1 j hjn
  rw [hk] at hat
  rw [hj] at hbt
  show W _ _ _ _ _ _ _ _ _ _ _ _ _ _ _ (F0 _ pc ls (.int N :: .int 0 :: .ref (ad g j) :: .int 0 :: .ref (ad g k) :: st.map (tr g)))
  rw [ad_lt g (Nat.lt_of_lt_of_le hkn hH.1), ad_lt g (Nat.lt_of_lt_of_le hjn hH.1)]
  subst hR
  have hc0 : H[g.2.2.2.1 + k]? = some (vp_cell (g.2.2.1 0) (m0, .inl f)) := hat
  have hc1 : H[g.2.2.2.1 + j]? = some (vp_cell (g.2.2.1 0) (m1, .inl h)) := hbt
  have nn : N.toInt = (N.toNatClampNeg : Int) := by
    have hz0 : (0 : Int) ≤ N.toInt := by
      have := Int32.not_lt.mp hN
      simpa using Int32.le_iff_toInt_le.mp this
    show N.toInt = ((N.toInt.toNat : Nat) : Int)
    omega
  have z0 : (0 : Int32).toNatClampNeg = 0 := by decide
  have zi : (0 : Int32).toInt = 0 := by decide
  intro T hT X
  obtain ⟨-, k0, hk0, cm0, hkk0⟩ := (hK.1.2 0 _ rfl).1 m0 (fun i => .int (f i))
  obtain ⟨-, k1, hk1, cm1, hkk1⟩ := (hK.1.2 0 _ rfl).1 m1 (fun i => .int (h i))
  obtain ⟨vm', X', step⟩ := X.arraycopy hx hown (hts _ hl1) (hts _ hl2) (hts _ hl3) (hts _ hl4) (src := g.2.2.2.1 + k) (dst := g.2.2.2.1 + j) (cs := vp_cell (g.2.2.1 0) (m0, .inl f)) (cd := vp_cell (g.2.2.1 0) (m1, .inl h)) (srcPos := 0) (destPos := 0) (n := N) (by rw [hT]; exact hc0) (by rw [hT]; exact hc1)
    (fun _ h => by cases h) (fun _ h => by cases h) (fun h => by cases h) (fun h => by cases h) hk0 hk1 hkk0 hkk1 (by simp [refKind]) (by decide) (by decide) hN
    (by rw [zi, nn]; show ¬ _ > ((arrV (g.2.2.1 0) m0 (fun i => .int (f i))).slots.size : Int); rw [arrV_size]; omega)
    (by rw [zi, nn]; show ¬ _ > ((arrV (g.2.2.1 0) m1 (fun i => .int (h i))).slots.size : Int); rw [arrV_size]; omega)
    (fun vm₁ _ i hi => by
      have e : (vp_cell (g.2.2.1 0) (m0, .inl f)).slots.getD ((0 : Int32).toNatClampNeg + i) .null = .int (f ((0 : Int32).toNatClampNeg + i)) := by
        show (arrV (g.2.2.1 0) m0 (fun i => .int (f i))).slots.getD _ _ = _
        rw [Array.getD_eq_getD_getElem?, arrV_read _ _ (by omega)]
        rfl
      refine ⟨?_, ?_⟩
      · rw [e]; rfl
      · rw [e]
        exact trivial)
    (g := F0 m pc ls (.int N :: .int 0 :: .ref (g.2.2.2.1 + j) :: .int 0 :: .ref (g.2.2.2.1 + k) :: st.map (tr g))) rfl (by rw [hml]; exact hl.1) (rest := st.map (tr g)) rfl (by rw [hb]; exact hd) hfr (by
      show 2 * 0 + _ + _ ≤ _
      have : ((st.map (tr g)).map fun v => v.category).sum = (st.map fun v => v.category).sum := by rw [List.map_map]; congr 1; apply List.map_congr_left; intro v _; exact tr_cat g v
      rw [this]
      dsimp only at hlo ⊢
      omega)
  have e1 : copied (vp_cell (g.2.2.1 0) (m0, .inl f)) (vp_cell (g.2.2.1 0) (m1, .inl h)) 0 0 N = vp_cell (g.2.2.1 0) (m1, .inl (va_cpy f h 0 0 N.toNatClampNeg)) := va_copied (fun z => .int z) (g.2.2.1 0) (g.2.2.1 0) f h (by omega)
  rw [e1] at X' step
  have hlt : g.2.2.2.1 + j < H.size := (Array.getElem?_eq_some_iff.mp hc1).1
  have hheap : ((T.setVm vm').setCell (g.2.2.2.1 + j) (vp_cell (g.2.2.1 0) (m1, .inl (va_cpy f h 0 0 N.toNatClampNeg)))).heap = H.setIfInBounds (g.2.2.2.1 + j) (vp_cell (g.2.2.1 0) (m1, .inl (va_cpy f h 0 0 N.toNatClampNeg))) := by rw [← hT]; rfl
  have oq : ∀ q : Nat, q ≠ g.2.2.2.1 + j → (H.setIfInBounds (g.2.2.2.1 + j) (vp_cell (g.2.2.1 0) (m1, .inl (va_cpy f h 0 0 N.toNatClampNeg))))[q]? = H[q]? := fun q hq => by simp [Array.getElem?_setIfInBounds, Ne.symm hq]
  have hz : (H.setIfInBounds (g.2.2.2.1 + j) (vp_cell (g.2.2.1 0) (m1, .inl (va_cpy f h 0 0 N.toNatClampNeg)))).size = H.size := by simp
  obtain ⟨t, a1, b1⟩ := kk _ _ ls (hH.set hjn hz oq (show (H.setIfInBounds _ _)[_]? = some _ by simp [Array.getElem?_setIfInBounds, hlt])) ⟨by rw [hz]; exact hS.1, fun q g1 g2 => by
      rw [oq q (fun e => g2 (by rw [e]; exact Nat.le_add_right _ _))]
      exact hS.2.1 q g1 g2, fun q hq => by
      rcases List.mem_append.mp hq with h | h
      · exact hS.2.2 q h
      · obtain ⟨z, -, hz⟩ := List.mem_map.mp h
        rw [← hz]
        exact Nat.le_add_right _ _⟩ hl _ hheap X'
  exact ⟨t, step t a1, b1⟩
end HEAP
