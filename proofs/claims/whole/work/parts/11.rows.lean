section ROWS
variable {g : Gx} {x : Cx} {cc : ByteArray} {nL : Nat} {own : String} {rt : Option FieldType} {rm : Room} {n' : Nat} {Post : Option Value → Wd → Prop} {cs ss n : Nat} {w : Wd} {pc : Nat} {L : List (Option Value)} {st : List Value}
theorem ww_iconst (C : Ck g x cc nL own rt rm n' Post) {z : Int} {v : Int32} (hd : decode cc pc = .ok (.iconst z, 1)) (hv : Int32.ofInt z = v) (k : WW g x nL cs ss n w (pc + 1) L (.int v :: st)) : WW g x nL cs ss n w pc L st := by
  obtain ⟨p, e, R, s, m, args, below, meth, c, Q⟩ := x
  obtain ⟨hx, hb, hml, hr, hlk, hown, hts, hK, hR, hbs, hQ⟩ := C
  intro H locs ls hH hS hl
  exact lv_iconst hx hb hd hv (k H locs ls hH hS hl)
theorem ww_bipush (C : Ck g x cc nL own rt rm n' Post) {z : Int} {v : Int32} (hd : decode cc pc = .ok (.bipush z, 2)) (hv : (Int8.ofInt z).toInt32 = v) (k : WW g x nL cs ss n w (pc + 2) L (.int v :: st)) : WW g x nL cs ss n w pc L st := by
  obtain ⟨p, e, R, s, m, args, below, meth, c, Q⟩ := x
  obtain ⟨hx, hb, hml, hr, hlk, hown, hts, hK, hR, hbs, hQ⟩ := C
  intro H locs ls hH hS hl
  exact lv_bipush hx hb hd hv (k H locs ls hH hS hl)
theorem ww_sipush (C : Ck g x cc nL own rt rm n' Post) {z : Int} {v : Int32} (hd : decode cc pc = .ok (.sipush z, 3)) (hv : (Int16.ofInt z).toInt32 = v) (k : WW g x nL cs ss n w (pc + 3) L (.int v :: st)) : WW g x nL cs ss n w pc L st := by
  obtain ⟨p, e, R, s, m, args, below, meth, c, Q⟩ := x
  obtain ⟨hx, hb, hml, hr, hlk, hown, hts, hK, hR, hbs, hQ⟩ := C
  intro H locs ls hH hS hl
  exact lv_sipush hx hb hd hv (k H locs ls hH hS hl)
theorem ww_lconst (C : Ck g x cc nL own rt rm n' Post) {z : Fin 2} {v : Int64} (hd : decode cc pc = .ok (.lconst z, 1)) (hv : Int64.ofNat (z : Nat) = v) (k : WW g x nL cs ss n w (pc + 1) L (.long v :: st)) : WW g x nL cs ss n w pc L st := by
  obtain ⟨p, e, R, s, m, args, below, meth, c, Q⟩ := x
  obtain ⟨hx, hb, hml, hr, hlk, hown, hts, hK, hR, hbs, hQ⟩ := C
  intro H locs ls hH hS hl
  exact lv_lconst hx hb hd hv (k H locs ls hH hS hl)
theorem ww_ldc2 (C : Ck g x cc nL own rt rm n' Post) {i : Nat} {v : Int64} (hc : Cond.constantLong own i v ∈ TS) (hd : decode cc pc = .ok (.ldc2_w i, 3)) (k : WW g x nL cs ss n w (pc + 3) L (.long v :: st)) : WW g x nL cs ss n w pc L st := by
  obtain ⟨p, e, R, s, m, args, below, meth, c, Q⟩ := x
  obtain ⟨hx, hb, hml, hr, hlk, hown, hts, hK, hR, hbs, hQ⟩ := C
  intro H locs ls hH hS hl
  exact lv_ldc2 hx hb hown (hts _ hc) hd (k H locs ls hH hS hl)
theorem ww_ldcw (C : Ck g x cc nL own rt rm n' Post) {i : Nat} {v : Int32} (hc : Cond.constant own i v ∈ TS) (hd : decode cc pc = .ok (.ldc_w i, 3)) (k : WW g x nL cs ss n w (pc + 3) L (.int v :: st)) : WW g x nL cs ss n w pc L st := by
  obtain ⟨p, e, R, s, m, args, below, meth, c, Q⟩ := x
  obtain ⟨hx, hb, hml, hr, hlk, hown, hts, hK, hR, hbs, hQ⟩ := C
  intro H locs ls hH hS hl
  exact lv_ldcw hx hb hown (hts _ hc) hd (k H locs ls hH hS hl)
theorem ww_iadd (C : Ck g x cc nL own rt rm n' Post) {a b : Int32} (hd : decode cc pc = .ok (.iadd, 1)) (k : WW g x nL cs ss n w (pc + 1) L (.int (a + b) :: st)) : WW g x nL cs ss n w pc L (.int b :: .int a :: st) := by
  obtain ⟨p, e, R, s, m, args, below, meth, c, Q⟩ := x
  obtain ⟨hx, hb, hml, hr, hlk, hown, hts, hK, hR, hbs, hQ⟩ := C
  intro H locs ls hH hS hl
  exact lv_iadd hx hb hd (k H locs ls hH hS hl)
theorem ww_isub (C : Ck g x cc nL own rt rm n' Post) {a b : Int32} (hd : decode cc pc = .ok (.isub, 1)) (k : WW g x nL cs ss n w (pc + 1) L (.int (a - b) :: st)) : WW g x nL cs ss n w pc L (.int b :: .int a :: st) := by
  obtain ⟨p, e, R, s, m, args, below, meth, c, Q⟩ := x
  obtain ⟨hx, hb, hml, hr, hlk, hown, hts, hK, hR, hbs, hQ⟩ := C
  intro H locs ls hH hS hl
  exact lv_isub hx hb hd (k H locs ls hH hS hl)
theorem ww_imul (C : Ck g x cc nL own rt rm n' Post) {a b : Int32} (hd : decode cc pc = .ok (.imul, 1)) (k : WW g x nL cs ss n w (pc + 1) L (.int (a * b) :: st)) : WW g x nL cs ss n w pc L (.int b :: .int a :: st) := by
  obtain ⟨p, e, R, s, m, args, below, meth, c, Q⟩ := x
  obtain ⟨hx, hb, hml, hr, hlk, hown, hts, hK, hR, hbs, hQ⟩ := C
  intro H locs ls hH hS hl
  exact lv_imul hx hb hd (k H locs ls hH hS hl)
theorem ww_iand (C : Ck g x cc nL own rt rm n' Post) {a b : Int32} (hd : decode cc pc = .ok (.iand, 1)) (k : WW g x nL cs ss n w (pc + 1) L (.int (a &&& b) :: st)) : WW g x nL cs ss n w pc L (.int b :: .int a :: st) := by
  obtain ⟨p, e, R, s, m, args, below, meth, c, Q⟩ := x
  obtain ⟨hx, hb, hml, hr, hlk, hown, hts, hK, hR, hbs, hQ⟩ := C
  intro H locs ls hH hS hl
  exact lv_iand hx hb hd (k H locs ls hH hS hl)
theorem ww_ior (C : Ck g x cc nL own rt rm n' Post) {a b : Int32} (hd : decode cc pc = .ok (.ior, 1)) (k : WW g x nL cs ss n w (pc + 1) L (.int (a ||| b) :: st)) : WW g x nL cs ss n w pc L (.int b :: .int a :: st) := by
  obtain ⟨p, e, R, s, m, args, below, meth, c, Q⟩ := x
  obtain ⟨hx, hb, hml, hr, hlk, hown, hts, hK, hR, hbs, hQ⟩ := C
  intro H locs ls hH hS hl
  exact lv_ior hx hb hd (k H locs ls hH hS hl)
theorem ww_ixor (C : Ck g x cc nL own rt rm n' Post) {a b : Int32} (hd : decode cc pc = .ok (.ixor, 1)) (k : WW g x nL cs ss n w (pc + 1) L (.int (a ^^^ b) :: st)) : WW g x nL cs ss n w pc L (.int b :: .int a :: st) := by
  obtain ⟨p, e, R, s, m, args, below, meth, c, Q⟩ := x
  obtain ⟨hx, hb, hml, hr, hlk, hown, hts, hK, hR, hbs, hQ⟩ := C
  intro H locs ls hH hS hl
  exact lv_ixor hx hb hd (k H locs ls hH hS hl)
theorem ww_ishl (C : Ck g x cc nL own rt rm n' Post) {a b : Int32} (hd : decode cc pc = .ok (.ishl, 1)) (k : WW g x nL cs ss n w (pc + 1) L (.int (a <<< (b &&& 31)) :: st)) : WW g x nL cs ss n w pc L (.int b :: .int a :: st) := by
  obtain ⟨p, e, R, s, m, args, below, meth, c, Q⟩ := x
  obtain ⟨hx, hb, hml, hr, hlk, hown, hts, hK, hR, hbs, hQ⟩ := C
  intro H locs ls hH hS hl
  exact lv_ishl hx hb hd (k H locs ls hH hS hl)
theorem ww_ishr (C : Ck g x cc nL own rt rm n' Post) {a b : Int32} (hd : decode cc pc = .ok (.ishr, 1)) (k : WW g x nL cs ss n w (pc + 1) L (.int (a >>> (b &&& 31)) :: st)) : WW g x nL cs ss n w pc L (.int b :: .int a :: st) := by
  obtain ⟨p, e, R, s, m, args, below, meth, c, Q⟩ := x
  obtain ⟨hx, hb, hml, hr, hlk, hown, hts, hK, hR, hbs, hQ⟩ := C
  intro H locs ls hH hS hl
  exact lv_ishr hx hb hd (k H locs ls hH hS hl)
theorem ww_idiv (C : Ck g x cc nL own rt rm n' Post) {a b : Int32} (hd : decode cc pc = .ok (.idiv, 1)) (hne : ¬ b = 0) (k : WW g x nL cs ss n w (pc + 1) L (.int (a / b) :: st)) : WW g x nL cs ss n w pc L (.int b :: .int a :: st) := by
  obtain ⟨p, e, R, s, m, args, below, meth, c, Q⟩ := x
  obtain ⟨hx, hb, hml, hr, hlk, hown, hts, hK, hR, hbs, hQ⟩ := C
  intro H locs ls hH hS hl
  exact lv_idiv hx hb hd hne (k H locs ls hH hS hl)
theorem ww_irem (C : Ck g x cc nL own rt rm n' Post) {a b : Int32} (hd : decode cc pc = .ok (.irem, 1)) (hne : ¬ b = 0) (k : WW g x nL cs ss n w (pc + 1) L (.int (a - a / b * b) :: st)) : WW g x nL cs ss n w pc L (.int b :: .int a :: st) := by
  obtain ⟨p, e, R, s, m, args, below, meth, c, Q⟩ := x
  obtain ⟨hx, hb, hml, hr, hlk, hown, hts, hK, hR, hbs, hQ⟩ := C
  intro H locs ls hH hS hl
  exact lv_irem hx hb hd hne (k H locs ls hH hS hl)
theorem ww_ladd (C : Ck g x cc nL own rt rm n' Post) {a b : Int64} (hd : decode cc pc = .ok (.ladd, 1)) (k : WW g x nL cs ss n w (pc + 1) L (.long (a + b) :: st)) : WW g x nL cs ss n w pc L (.long b :: .long a :: st) := by
  obtain ⟨p, e, R, s, m, args, below, meth, c, Q⟩ := x
  obtain ⟨hx, hb, hml, hr, hlk, hown, hts, hK, hR, hbs, hQ⟩ := C
  intro H locs ls hH hS hl
  exact lv_ladd hx hb hd (k H locs ls hH hS hl)
theorem ww_lsub (C : Ck g x cc nL own rt rm n' Post) {a b : Int64} (hd : decode cc pc = .ok (.lsub, 1)) (k : WW g x nL cs ss n w (pc + 1) L (.long (a - b) :: st)) : WW g x nL cs ss n w pc L (.long b :: .long a :: st) := by
  obtain ⟨p, e, R, s, m, args, below, meth, c, Q⟩ := x
  obtain ⟨hx, hb, hml, hr, hlk, hown, hts, hK, hR, hbs, hQ⟩ := C
  intro H locs ls hH hS hl
  exact lv_lsub hx hb hd (k H locs ls hH hS hl)
theorem ww_lmul (C : Ck g x cc nL own rt rm n' Post) {a b : Int64} (hd : decode cc pc = .ok (.lmul, 1)) (k : WW g x nL cs ss n w (pc + 1) L (.long (a * b) :: st)) : WW g x nL cs ss n w pc L (.long b :: .long a :: st) := by
  obtain ⟨p, e, R, s, m, args, below, meth, c, Q⟩ := x
  obtain ⟨hx, hb, hml, hr, hlk, hown, hts, hK, hR, hbs, hQ⟩ := C
  intro H locs ls hH hS hl
  exact lv_lmul hx hb hd (k H locs ls hH hS hl)
theorem ww_land (C : Ck g x cc nL own rt rm n' Post) {a b : Int64} (hd : decode cc pc = .ok (.land, 1)) (k : WW g x nL cs ss n w (pc + 1) L (.long (a &&& b) :: st)) : WW g x nL cs ss n w pc L (.long b :: .long a :: st) := by
  obtain ⟨p, e, R, s, m, args, below, meth, c, Q⟩ := x
  obtain ⟨hx, hb, hml, hr, hlk, hown, hts, hK, hR, hbs, hQ⟩ := C
  intro H locs ls hH hS hl
  exact lv_land hx hb hd (k H locs ls hH hS hl)
theorem ww_lor (C : Ck g x cc nL own rt rm n' Post) {a b : Int64} (hd : decode cc pc = .ok (.lor, 1)) (k : WW g x nL cs ss n w (pc + 1) L (.long (a ||| b) :: st)) : WW g x nL cs ss n w pc L (.long b :: .long a :: st) := by
  obtain ⟨p, e, R, s, m, args, below, meth, c, Q⟩ := x
  obtain ⟨hx, hb, hml, hr, hlk, hown, hts, hK, hR, hbs, hQ⟩ := C
  intro H locs ls hH hS hl
  exact lv_lor hx hb hd (k H locs ls hH hS hl)
theorem ww_ldiv (C : Ck g x cc nL own rt rm n' Post) {a b : Int64} (hd : decode cc pc = .ok (.ldiv, 1)) (hne : ¬ b = 0) (k : WW g x nL cs ss n w (pc + 1) L (.long (a / b) :: st)) : WW g x nL cs ss n w pc L (.long b :: .long a :: st) := by
  obtain ⟨p, e, R, s, m, args, below, meth, c, Q⟩ := x
  obtain ⟨hx, hb, hml, hr, hlk, hown, hts, hK, hR, hbs, hQ⟩ := C
  intro H locs ls hH hS hl
  exact lv_ldiv hx hb hd hne (k H locs ls hH hS hl)
theorem ww_lrem (C : Ck g x cc nL own rt rm n' Post) {a b : Int64} (hd : decode cc pc = .ok (.lrem, 1)) (hne : ¬ b = 0) (k : WW g x nL cs ss n w (pc + 1) L (.long (a - a / b * b) :: st)) : WW g x nL cs ss n w pc L (.long b :: .long a :: st) := by
  obtain ⟨p, e, R, s, m, args, below, meth, c, Q⟩ := x
  obtain ⟨hx, hb, hml, hr, hlk, hown, hts, hK, hR, hbs, hQ⟩ := C
  intro H locs ls hH hS hl
  exact lv_lrem hx hb hd hne (k H locs ls hH hS hl)
theorem ww_lcmp (C : Ck g x cc nL own rt rm n' Post) {a b : Int64} (hd : decode cc pc = .ok (.lcmp, 1)) (k : WW g x nL cs ss n w (pc + 1) L (.int (lg_cmp a b) :: st)) : WW g x nL cs ss n w pc L (.long b :: .long a :: st) := by
  obtain ⟨p, e, R, s, m, args, below, meth, c, Q⟩ := x
  obtain ⟨hx, hb, hml, hr, hlk, hown, hts, hK, hR, hbs, hQ⟩ := C
  intro H locs ls hH hS hl
  exact W.lcmp hx hb hd (k H locs ls hH hS hl)
theorem ww_lshl (C : Ck g x cc nL own rt rm n' Post) {a : Int64} {b : Int32} (hd : decode cc pc = .ok (.lshl, 1)) (k : WW g x nL cs ss n w (pc + 1) L (.long (a <<< (b.toInt64 &&& 63)) :: st)) : WW g x nL cs ss n w pc L (.int b :: .long a :: st) := by
  obtain ⟨p, e, R, s, m, args, below, meth, c, Q⟩ := x
  obtain ⟨hx, hb, hml, hr, hlk, hown, hts, hK, hR, hbs, hQ⟩ := C
  intro H locs ls hH hS hl
  exact lv_lshl hx hb hd rfl (k H locs ls hH hS hl)
theorem ww_lshr (C : Ck g x cc nL own rt rm n' Post) {a : Int64} {b : Int32} (hd : decode cc pc = .ok (.lshr, 1)) (k : WW g x nL cs ss n w (pc + 1) L (.long (a >>> (b.toInt64 &&& 63)) :: st)) : WW g x nL cs ss n w pc L (.int b :: .long a :: st) := by
  obtain ⟨p, e, R, s, m, args, below, meth, c, Q⟩ := x
  obtain ⟨hx, hb, hml, hr, hlk, hown, hts, hK, hR, hbs, hQ⟩ := C
  intro H locs ls hH hS hl
  exact lv_lshr hx hb hd rfl (k H locs ls hH hS hl)
theorem ww_lushr (C : Ck g x cc nL own rt rm n' Post) {a : Int64} {b : Int32} (hd : decode cc pc = .ok (.lushr, 1)) (k : WW g x nL cs ss n w (pc + 1) L (.long ((a.toUInt64 >>> (b.toInt64.toUInt64 &&& Int64.toUInt64 63)).toInt64) :: st)) : WW g x nL cs ss n w pc L (.int b :: .long a :: st) := by
  obtain ⟨p, e, R, s, m, args, below, meth, c, Q⟩ := x
  obtain ⟨hx, hb, hml, hr, hlk, hown, hts, hK, hR, hbs, hQ⟩ := C
  intro H locs ls hH hS hl
  exact lv_lushr hx hb hd rfl (k H locs ls hH hS hl)
theorem ww_iushr (C : Ck g x cc nL own rt rm n' Post) {a b : Int32} (hd : decode cc pc = .ok (.iushr, 1)) (k : WW g x nL cs ss n w (pc + 1) L (.int ((a.toUInt32 >>> (b.toUInt32 &&& Int32.toUInt32 31)).toInt32) :: st)) : WW g x nL cs ss n w pc L (.int b :: .int a :: st) := by
  obtain ⟨p, e, R, s, m, args, below, meth, c, Q⟩ := x
  obtain ⟨hx, hb, hml, hr, hlk, hown, hts, hK, hR, hbs, hQ⟩ := C
  intro H locs ls hH hS hl
  exact lv_iushr hx hb hd rfl (k H locs ls hH hS hl)
theorem ww_i2l (C : Ck g x cc nL own rt rm n' Post) {a : Int32} (hd : decode cc pc = .ok (.i2l, 1)) (k : WW g x nL cs ss n w (pc + 1) L (.long a.toInt64 :: st)) : WW g x nL cs ss n w pc L (.int a :: st) := by
  obtain ⟨p, e, R, s, m, args, below, meth, c, Q⟩ := x
  obtain ⟨hx, hb, hml, hr, hlk, hown, hts, hK, hR, hbs, hQ⟩ := C
  intro H locs ls hH hS hl
  exact lv_i2l hx hb hd rfl (k H locs ls hH hS hl)
theorem ww_l2i (C : Ck g x cc nL own rt rm n' Post) {a : Int64} (hd : decode cc pc = .ok (.l2i, 1)) (k : WW g x nL cs ss n w (pc + 1) L (.int a.toInt32 :: st)) : WW g x nL cs ss n w pc L (.long a :: st) := by
  obtain ⟨p, e, R, s, m, args, below, meth, c, Q⟩ := x
  obtain ⟨hx, hb, hml, hr, hlk, hown, hts, hK, hR, hbs, hQ⟩ := C
  intro H locs ls hH hS hl
  exact lv_l2i hx hb hd rfl (k H locs ls hH hS hl)
theorem ww_i2b (C : Ck g x cc nL own rt rm n' Post) {a : Int32} (hd : decode cc pc = .ok (.i2b, 1)) (k : WW g x nL cs ss n w (pc + 1) L (.int a.toInt8.toInt32 :: st)) : WW g x nL cs ss n w pc L (.int a :: st) := by
  obtain ⟨p, e, R, s, m, args, below, meth, c, Q⟩ := x
  obtain ⟨hx, hb, hml, hr, hlk, hown, hts, hK, hR, hbs, hQ⟩ := C
  intro H locs ls hH hS hl
  exact lv_i2b hx hb hd rfl (k H locs ls hH hS hl)
theorem ww_dup (C : Ck g x cc nL own rt rm n' Post) {v : Value} (hd : decode cc pc = .ok (.dup, 1)) (hc : v.category = 1) (k : WW g x nL cs ss n w (pc + 1) L (v :: v :: st)) : WW g x nL cs ss n w pc L (v :: st) := by
  obtain ⟨p, e, R, s, m, args, below, meth, c, Q⟩ := x
  obtain ⟨hx, hb, hml, hr, hlk, hown, hts, hK, hR, hbs, hQ⟩ := C
  intro H locs ls hH hS hl
  exact lv_dup hx hb hd (by rw [tr_cat]; exact hc) (k H locs ls hH hS hl)
theorem ww_pop (C : Ck g x cc nL own rt rm n' Post) {v : Value} (hd : decode cc pc = .ok (.pop, 1)) (hc : v.category = 1) (k : WW g x nL cs ss n w (pc + 1) L st) : WW g x nL cs ss n w pc L (v :: st) := by
  obtain ⟨p, e, R, s, m, args, below, meth, c, Q⟩ := x
  obtain ⟨hx, hb, hml, hr, hlk, hown, hts, hK, hR, hbs, hQ⟩ := C
  intro H locs ls hH hS hl
  exact lv_pop hx hb hd (by rw [tr_cat]; exact hc) (k H locs ls hH hS hl)
theorem ww_dup2 (C : Ck g x cc nL own rt rm n' Post) {v u : Value} (hd : decode cc pc = .ok (.dup2, 1)) (hc : v.category = 1) (hc2 : u.category = 1) (k : WW g x nL cs ss n w (pc + 1) L (v :: u :: v :: u :: st)) : WW g x nL cs ss n w pc L (v :: u :: st) := by
  obtain ⟨p, e, R, s, m, args, below, meth, c, Q⟩ := x
  obtain ⟨hx, hb, hml, hr, hlk, hown, hts, hK, hR, hbs, hQ⟩ := C
  intro H locs ls hH hS hl
  exact lv_dup2_11 hx hb hd (by rw [tr_cat]; exact hc) (by rw [tr_cat]; exact hc2) (k H locs ls hH hS hl)
theorem ww_goto (C : Ck g x cc nL own rt rm n' Post) {off : Int} {tgt : Nat} (hd : decode cc pc = .ok (.goto off, 3)) (ht : (pc : Int) + off = (tgt : Int)) (k : WW g x nL cs ss n w (tgt) L st) : WW g x nL cs ss n w pc L st := by
  obtain ⟨p, e, R, s, m, args, below, meth, c, Q⟩ := x
  obtain ⟨hx, hb, hml, hr, hlk, hown, hts, hK, hR, hbs, hQ⟩ := C
  intro H locs ls hH hS hl
  exact lv_goto hx hb hd ht (k H locs ls hH hS hl)
theorem ww_ifeq (C : Ck g x cc nL own rt rm n' Post) {a : Int32} {off : Int} {tgt : Nat} (hd : decode cc pc = .ok (.ifCond .eq off, 3)) (ht : (pc : Int) + off = (tgt : Int)) (kt : a = 0 → WW g x nL cs ss n w (tgt) L st) (kf : ¬ a = 0 → WW g x nL cs ss n w (pc + 3) L st) : WW g x nL cs ss n w pc L (.int a :: st) := by
  obtain ⟨p, e, R, s, m, args, below, meth, c, Q⟩ := x
  obtain ⟨hx, hb, hml, hr, hlk, hown, hts, hK, hR, hbs, hQ⟩ := C
  intro H locs ls hH hS hl
  exact lv_if_eq hx hb hd ht (fun h => kt h H locs ls hH hS hl) (fun h => kf h H locs ls hH hS hl)
theorem ww_ifne (C : Ck g x cc nL own rt rm n' Post) {a : Int32} {off : Int} {tgt : Nat} (hd : decode cc pc = .ok (.ifCond .ne off, 3)) (ht : (pc : Int) + off = (tgt : Int)) (kt : ¬ a = 0 → WW g x nL cs ss n w (tgt) L st) (kf : a = 0 → WW g x nL cs ss n w (pc + 3) L st) : WW g x nL cs ss n w pc L (.int a :: st) := by
  obtain ⟨p, e, R, s, m, args, below, meth, c, Q⟩ := x
  obtain ⟨hx, hb, hml, hr, hlk, hown, hts, hK, hR, hbs, hQ⟩ := C
  intro H locs ls hH hS hl
  exact lv_if_ne hx hb hd ht (fun h => kt h H locs ls hH hS hl) (fun h => kf h H locs ls hH hS hl)
theorem ww_iflt (C : Ck g x cc nL own rt rm n' Post) {a : Int32} {off : Int} {tgt : Nat} (hd : decode cc pc = .ok (.ifCond .lt off, 3)) (ht : (pc : Int) + off = (tgt : Int)) (kt : a < 0 → WW g x nL cs ss n w (tgt) L st) (kf : ¬ a < 0 → WW g x nL cs ss n w (pc + 3) L st) : WW g x nL cs ss n w pc L (.int a :: st) := by
  obtain ⟨p, e, R, s, m, args, below, meth, c, Q⟩ := x
  obtain ⟨hx, hb, hml, hr, hlk, hown, hts, hK, hR, hbs, hQ⟩ := C
  intro H locs ls hH hS hl
  exact lv_if_lt hx hb hd ht (fun h => kt h H locs ls hH hS hl) (fun h => kf h H locs ls hH hS hl)
theorem ww_ifge (C : Ck g x cc nL own rt rm n' Post) {a : Int32} {off : Int} {tgt : Nat} (hd : decode cc pc = .ok (.ifCond .ge off, 3)) (ht : (pc : Int) + off = (tgt : Int)) (kt : 0 ≤ a → WW g x nL cs ss n w (tgt) L st) (kf : ¬ 0 ≤ a → WW g x nL cs ss n w (pc + 3) L st) : WW g x nL cs ss n w pc L (.int a :: st) := by
  obtain ⟨p, e, R, s, m, args, below, meth, c, Q⟩ := x
  obtain ⟨hx, hb, hml, hr, hlk, hown, hts, hK, hR, hbs, hQ⟩ := C
  intro H locs ls hH hS hl
  exact lv_if_ge hx hb hd ht (fun h => kt h H locs ls hH hS hl) (fun h => kf h H locs ls hH hS hl)
theorem ww_ifgt (C : Ck g x cc nL own rt rm n' Post) {a : Int32} {off : Int} {tgt : Nat} (hd : decode cc pc = .ok (.ifCond .gt off, 3)) (ht : (pc : Int) + off = (tgt : Int)) (kt : 0 < a → WW g x nL cs ss n w (tgt) L st) (kf : ¬ 0 < a → WW g x nL cs ss n w (pc + 3) L st) : WW g x nL cs ss n w pc L (.int a :: st) := by
  obtain ⟨p, e, R, s, m, args, below, meth, c, Q⟩ := x
  obtain ⟨hx, hb, hml, hr, hlk, hown, hts, hK, hR, hbs, hQ⟩ := C
  intro H locs ls hH hS hl
  exact lv_if_gt hx hb hd ht (fun h => kt h H locs ls hH hS hl) (fun h => kf h H locs ls hH hS hl)
theorem ww_ifle (C : Ck g x cc nL own rt rm n' Post) {a : Int32} {off : Int} {tgt : Nat} (hd : decode cc pc = .ok (.ifCond .le off, 3)) (ht : (pc : Int) + off = (tgt : Int)) (kt : a ≤ 0 → WW g x nL cs ss n w (tgt) L st) (kf : ¬ a ≤ 0 → WW g x nL cs ss n w (pc + 3) L st) : WW g x nL cs ss n w pc L (.int a :: st) := by
  obtain ⟨p, e, R, s, m, args, below, meth, c, Q⟩ := x
  obtain ⟨hx, hb, hml, hr, hlk, hown, hts, hK, hR, hbs, hQ⟩ := C
  intro H locs ls hH hS hl
  exact lv_if_le hx hb hd ht (fun h => kt h H locs ls hH hS hl) (fun h => kf h H locs ls hH hS hl)
theorem ww_icmpeq (C : Ck g x cc nL own rt rm n' Post) {a b : Int32} {off : Int} {tgt : Nat} (hd : decode cc pc = .ok (.if_icmp .eq off, 3)) (ht : (pc : Int) + off = (tgt : Int)) (kt : a = b → WW g x nL cs ss n w (tgt) L st) (kf : ¬ a = b → WW g x nL cs ss n w (pc + 3) L st) : WW g x nL cs ss n w pc L (.int b :: .int a :: st) := by
  obtain ⟨p, e, R, s, m, args, below, meth, c, Q⟩ := x
  obtain ⟨hx, hb, hml, hr, hlk, hown, hts, hK, hR, hbs, hQ⟩ := C
  intro H locs ls hH hS hl
  exact lv_icmp_eq hx hb hd ht (fun h => kt h H locs ls hH hS hl) (fun h => kf h H locs ls hH hS hl)
theorem ww_icmpne (C : Ck g x cc nL own rt rm n' Post) {a b : Int32} {off : Int} {tgt : Nat} (hd : decode cc pc = .ok (.if_icmp .ne off, 3)) (ht : (pc : Int) + off = (tgt : Int)) (kt : ¬ a = b → WW g x nL cs ss n w (tgt) L st) (kf : a = b → WW g x nL cs ss n w (pc + 3) L st) : WW g x nL cs ss n w pc L (.int b :: .int a :: st) := by
  obtain ⟨p, e, R, s, m, args, below, meth, c, Q⟩ := x
  obtain ⟨hx, hb, hml, hr, hlk, hown, hts, hK, hR, hbs, hQ⟩ := C
  intro H locs ls hH hS hl
  exact lv_icmp_ne hx hb hd ht (fun h => kt h H locs ls hH hS hl) (fun h => kf h H locs ls hH hS hl)
theorem ww_icmplt (C : Ck g x cc nL own rt rm n' Post) {a b : Int32} {off : Int} {tgt : Nat} (hd : decode cc pc = .ok (.if_icmp .lt off, 3)) (ht : (pc : Int) + off = (tgt : Int)) (kt : a < b → WW g x nL cs ss n w (tgt) L st) (kf : ¬ a < b → WW g x nL cs ss n w (pc + 3) L st) : WW g x nL cs ss n w pc L (.int b :: .int a :: st) := by
  obtain ⟨p, e, R, s, m, args, below, meth, c, Q⟩ := x
  obtain ⟨hx, hb, hml, hr, hlk, hown, hts, hK, hR, hbs, hQ⟩ := C
  intro H locs ls hH hS hl
  exact lv_icmp_lt hx hb hd ht (fun h => kt h H locs ls hH hS hl) (fun h => kf h H locs ls hH hS hl)
theorem ww_icmpge (C : Ck g x cc nL own rt rm n' Post) {a b : Int32} {off : Int} {tgt : Nat} (hd : decode cc pc = .ok (.if_icmp .ge off, 3)) (ht : (pc : Int) + off = (tgt : Int)) (kt : b ≤ a → WW g x nL cs ss n w (tgt) L st) (kf : ¬ b ≤ a → WW g x nL cs ss n w (pc + 3) L st) : WW g x nL cs ss n w pc L (.int b :: .int a :: st) := by
  obtain ⟨p, e, R, s, m, args, below, meth, c, Q⟩ := x
  obtain ⟨hx, hb, hml, hr, hlk, hown, hts, hK, hR, hbs, hQ⟩ := C
  intro H locs ls hH hS hl
  exact lv_icmp_ge hx hb hd ht (fun h => kt h H locs ls hH hS hl) (fun h => kf h H locs ls hH hS hl)
theorem ww_icmpgt (C : Ck g x cc nL own rt rm n' Post) {a b : Int32} {off : Int} {tgt : Nat} (hd : decode cc pc = .ok (.if_icmp .gt off, 3)) (ht : (pc : Int) + off = (tgt : Int)) (kt : b < a → WW g x nL cs ss n w (tgt) L st) (kf : ¬ b < a → WW g x nL cs ss n w (pc + 3) L st) : WW g x nL cs ss n w pc L (.int b :: .int a :: st) := by
  obtain ⟨p, e, R, s, m, args, below, meth, c, Q⟩ := x
  obtain ⟨hx, hb, hml, hr, hlk, hown, hts, hK, hR, hbs, hQ⟩ := C
  intro H locs ls hH hS hl
  exact lv_icmp_gt hx hb hd ht (fun h => kt h H locs ls hH hS hl) (fun h => kf h H locs ls hH hS hl)
theorem ww_icmple (C : Ck g x cc nL own rt rm n' Post) {a b : Int32} {off : Int} {tgt : Nat} (hd : decode cc pc = .ok (.if_icmp .le off, 3)) (ht : (pc : Int) + off = (tgt : Int)) (kt : a ≤ b → WW g x nL cs ss n w (tgt) L st) (kf : ¬ a ≤ b → WW g x nL cs ss n w (pc + 3) L st) : WW g x nL cs ss n w pc L (.int b :: .int a :: st) := by
  obtain ⟨p, e, R, s, m, args, below, meth, c, Q⟩ := x
  obtain ⟨hx, hb, hml, hr, hlk, hown, hts, hK, hR, hbs, hQ⟩ := C
  intro H locs ls hH hS hl
  exact lv_icmp_le hx hb hd ht (fun h => kt h H locs ls hH hS hl) (fun h => kf h H locs ls hH hS hl)
theorem ww_tabIn (C : Ck g x cc nL own rt rm n' Post) {a : Int32} {dflt lo hi : Int} {offs : Array Int} {len : Nat} {off : Int} {tgt : Nat} (hd : decode cc pc = .ok (.tableswitch dflt lo hi offs, len)) (h1 : ¬ a.toInt < lo) (h2 : ¬ hi < a.toInt) (ho : offs[(a.toInt - lo).toNat]? = some off) (ht : (pc : Int) + off = (tgt : Int)) (k : WW g x nL cs ss n w (tgt) L st) : WW g x nL cs ss n w pc L (.int a :: st) := by
  obtain ⟨p, e, R, s, m, args, below, meth, c, Q⟩ := x
  obtain ⟨hx, hb, hml, hr, hlk, hown, hts, hK, hR, hbs, hQ⟩ := C
  intro H locs ls hH hS hl
  exact lv_tableIn hx hb hd h1 h2 ho ht (k H locs ls hH hS hl)
theorem ww_tabOut (C : Ck g x cc nL own rt rm n' Post) {a : Int32} {dflt lo hi : Int} {offs : Array Int} {len : Nat} {tgt : Nat} (hd : decode cc pc = .ok (.tableswitch dflt lo hi offs, len)) (h1 : a.toInt < lo ∨ hi < a.toInt) (ht : (pc : Int) + dflt = (tgt : Int)) (k : WW g x nL cs ss n w (tgt) L st) : WW g x nL cs ss n w pc L (.int a :: st) := by
  obtain ⟨p, e, R, s, m, args, below, meth, c, Q⟩ := x
  obtain ⟨hx, hb, hml, hr, hlk, hown, hts, hK, hR, hbs, hQ⟩ := C
  intro H locs ls hH hS hl
  exact lv_tableOut hx hb hd h1 ht (k H locs ls hH hS hl)
theorem ww_look (C : Ck g x cc nL own rt rm n' Post) {a : Int32} {dflt : Int} {ps : Array (Int × Int)} {len : Nat} {off : Int} {tgt : Nat} (hd : decode cc pc = .ok (.lookupswitch dflt ps, len)) (hp : (ps.toList.zip (ps.toList.drop 1)).all (fun (a, next) => a.1 < next.1) = true) (ho : Op.lookupswitch.offset ps.toList dflt a.toInt = off) (ht : (pc : Int) + off = (tgt : Int)) (k : WW g x nL cs ss n w (tgt) L st) : WW g x nL cs ss n w pc L (.int a :: st) := by
  obtain ⟨p, e, R, s, m, args, below, meth, c, Q⟩ := x
  obtain ⟨hx, hb, hml, hr, hlk, hown, hts, hK, hR, hbs, hQ⟩ := C
  intro H locs ls hH hS hl
  exact lv_lookup hx hb hd hp ho ht (k H locs ls hH hS hl)
/-- a value of one slot is stored -/
theorem lvl_set1 {g : Gx} {ls : Array Slot} {nL : Nat} {L L' : List (Option Value)} {i : Nat} {v : Value} (hl : lv_has ls nL ((i, tr g v) :: (lvl g L).filter (fun q => !(q.1 == i) && !(q.1 + 1 == i && q.2.category == 2)))) (hp : ∀ u, L[i - 1]? = some (some u) → 0 < i → ¬ u.category = 2) (hL : L' = L.set i (some v)) : lv_has ls nL (lvl g L') := by
  refine ⟨hl.1, hl.2.1, fun q hq => hl.2.2 q ?_⟩
  obtain ⟨u, h1, h2⟩ := mem_lvl.mp hq
  subst hL
  by_cases hi : q.1 = i
  · obtain ⟨j, z⟩ := q
    simp only at hi h1 h2
    subst hi
    rw [List.getElem?_set_self' ] at h1
    cases hz : L[j]? with
    | none => rw [hz] at h1; simp at h1
    | some y =>
      rw [hz] at h1
      simp at h1
      subst h1
      rw [h2]
      exact List.mem_cons_self
  · rw [List.getElem?_set_ne (Ne.symm hi)] at h1
    refine List.mem_cons_of_mem _ (List.mem_filter.mpr ⟨mem_lvl.mpr ⟨u, h1, h2⟩, ?_⟩)
    rw [Bool.and_eq_true]
    refine ⟨by simpa using hi, ?_⟩
    by_cases hj : q.1 + 1 = i
    · have := hp u (by rw [← hj, Nat.add_sub_cancel]; exact h1) (by omega)
      rw [h2, tr_cat]
      simp [this]
    · simp [hj]
theorem lvl_set2 {g : Gx} {ls : Array Slot} {nL : Nat} {L L' : List (Option Value)} {i : Nat} {v : Value} (hl : lv_has ls nL ((i, tr g v) :: (lvl g L).filter (fun q => !(q.1 == i) && (!(q.1 == i + 1) && !(q.1 + 1 == i && q.2.category == 2))))) (hp : ∀ u, L[i - 1]? = some (some u) → 0 < i → ¬ u.category = 2) (hL : L' = (L.set i (some v)).set (i + 1) none) : lv_has ls nL (lvl g L') := by
  refine ⟨hl.1, hl.2.1, fun q hq => hl.2.2 q ?_⟩
  obtain ⟨u, h1, h2⟩ := mem_lvl.mp hq
  subst hL
  have hi1 : ¬ q.1 = i + 1 := by
    intro e
    rw [e, List.getElem?_set_self'] at h1
    cases hz : (L.set i (some v))[i + 1]? with
    | none => rw [hz] at h1; simp at h1
    | some y => rw [hz] at h1; simp at h1
  rw [List.getElem?_set_ne (Ne.symm hi1)] at h1
  by_cases hi : q.1 = i
  · obtain ⟨j, z⟩ := q
    simp only at hi h1 h2
    subst hi
    rw [List.getElem?_set_self' ] at h1
    cases hz : L[j]? with
    | none => rw [hz] at h1; simp at h1
    | some y =>
      rw [hz] at h1
      simp at h1
      subst h1
      rw [h2]
      exact List.mem_cons_self
  · rw [List.getElem?_set_ne (Ne.symm hi)] at h1
    refine List.mem_cons_of_mem _ (List.mem_filter.mpr ⟨mem_lvl.mpr ⟨u, h1, h2⟩, ?_⟩)
    rw [Bool.and_eq_true, Bool.and_eq_true]
    refine ⟨by simpa using hi, by simpa using hi1, ?_⟩
    by_cases hj : q.1 + 1 = i
    · have := hp u (by rw [← hj, Nat.add_sub_cancel]; exact h1) (by omega)
      rw [h2, tr_cat]
      simp [this]
    · simp [hj]
def nl (v : Option Value) : Bool := match v with
  | some u => u.category == 1
  | none => true
theorem nl_p {v : Option Value} (h : nl v = true) : ∀ u, some v = some (some u) → ¬ u.category = 2 := by
  intro u e
  cases e
  simp only [nl, beq_iff_eq] at h
  omega
theorem ww_iload0 (C : Ck g x cc nL own rt rm n' Post)  {v : Int32} {t : List (Option Value)} (hd : decode cc pc = .ok (.iload_n 0, 1)) (k : WW g x nL cs ss n w (pc + 1) (some (.int v) :: t) (.int v :: st)) : WW g x nL cs ss n w pc (some (.int v) :: t) st := by
  obtain ⟨p, e, R, s, m, args, below, meth, c, Q⟩ := x
  obtain ⟨hx, hb, hml, hr, hlk, hown, hts, hK, hR, hbs, hQ⟩ := C
  intro H locs ls hH hS hl
  exact lv_iload_n hx hb hd rfl (hl.2.2 (0, tr g (.int v)) (mem_lvl.mpr ⟨_, rfl, rfl⟩)) (k H locs ls hH hS hl)
theorem ww_lload0 (C : Ck g x cc nL own rt rm n' Post)  {v : Int64} {t : List (Option Value)} (hd : decode cc pc = .ok (.lload_n 0, 1)) (k : WW g x nL cs ss n w (pc + 1) (some (.long v) :: t) (.long v :: st)) : WW g x nL cs ss n w pc (some (.long v) :: t) st := by
  obtain ⟨p, e, R, s, m, args, below, meth, c, Q⟩ := x
  obtain ⟨hx, hb, hml, hr, hlk, hown, hts, hK, hR, hbs, hQ⟩ := C
  intro H locs ls hH hS hl
  exact lv_lload_n hx hb hd rfl (hl.2.2 (0, tr g (.long v)) (mem_lvl.mpr ⟨_, rfl, rfl⟩)) (k H locs ls hH hS hl)
theorem ww_aload0 (C : Ck g x cc nL own rt rm n' Post)  {v : Nat} {t : List (Option Value)} (hd : decode cc pc = .ok (.aload_n 0, 1)) (k : WW g x nL cs ss n w (pc + 1) (some (.ref v) :: t) (.ref v :: st)) : WW g x nL cs ss n w pc (some (.ref v) :: t) st := by
  obtain ⟨p, e, R, s, m, args, below, meth, c, Q⟩ := x
  obtain ⟨hx, hb, hml, hr, hlk, hown, hts, hK, hR, hbs, hQ⟩ := C
  intro H locs ls hH hS hl
  exact lv_aload_n hx hb hd rfl (hl.2.2 (0, tr g (.ref v)) (mem_lvl.mpr ⟨_, rfl, rfl⟩)) (k H locs ls hH hS hl)
theorem ww_istore0 (C : Ck g x cc nL own rt rm n' Post) {a0 : Option Value} {v : Int32} {t : List (Option Value)} (hd : decode cc pc = .ok (.istore_n 0, 1)) (hn : 0 < nL) (k : WW g x nL cs ss n w (pc + 1) (some (.int v) :: t) st) : WW g x nL cs ss n w pc (a0 :: t) (.int v :: st) := by
  obtain ⟨p, e, R, s, m, args, below, meth, c, Q⟩ := x
  obtain ⟨hx, hb, hml, hr, hlk, hown, hts, hK, hR, hbs, hQ⟩ := C
  intro H locs ls hH hS hl
  exact lv_istore_n hx hb hd rfl hl hn rfl (fun ls2 hl2 => k H locs ls2 hH hS (lvl_set1 (v := .int v) hl2 (fun u e h => absurd h (Nat.lt_irrefl 0)) rfl))
theorem ww_astore0 (C : Ck g x cc nL own rt rm n' Post) {a0 : Option Value} {v : Nat} {t : List (Option Value)} (hd : decode cc pc = .ok (.astore_n 0, 1)) (hn : 0 < nL) (k : WW g x nL cs ss n w (pc + 1) (some (.ref v) :: t) st) : WW g x nL cs ss n w pc (a0 :: t) (.ref v :: st) := by
  obtain ⟨p, e, R, s, m, args, below, meth, c, Q⟩ := x
  obtain ⟨hx, hb, hml, hr, hlk, hown, hts, hK, hR, hbs, hQ⟩ := C
  intro H locs ls hH hS hl
  exact lv_astore_n hx hb hd rfl hl hn rfl (fun ls2 hl2 => k H locs ls2 hH hS (lvl_set1 (v := .ref v) hl2 (fun u e h => absurd h (Nat.lt_irrefl 0)) rfl))
theorem ww_lstore0 (C : Ck g x cc nL own rt rm n' Post) {a0 : Option Value} {a1 : Option Value} {v : Int64} {t : List (Option Value)} (hd : decode cc pc = .ok (.lstore_n 0, 1)) (hn : 1 < nL) (k : WW g x nL cs ss n w (pc + 1) (some (.long v) :: none :: t) st) : WW g x nL cs ss n w pc (a0 :: a1 :: t) (.long v :: st) := by
  obtain ⟨p, e, R, s, m, args, below, meth, c, Q⟩ := x
  obtain ⟨hx, hb, hml, hr, hlk, hown, hts, hK, hR, hbs, hQ⟩ := C
  intro H locs ls hH hS hl
  exact lv_lstore_n hx hb hd rfl hl hn rfl (fun ls2 hl2 => k H locs ls2 hH hS (lvl_set2 (v := .long v) hl2 (fun u e h => absurd h (Nat.lt_irrefl 0)) rfl))
theorem ww_iinc0 (C : Ck g x cc nL own rt rm n' Post)  {v u : Int32} {z : Int} {t : List (Option Value)} (hd : decode cc pc = .ok (.iinc 0 z, 3)) (hv : v + Int32.ofInt z = u) (hn : 0 < nL) (k : WW g x nL cs ss n w (pc + 3) (some (.int u) :: t) st) : WW g x nL cs ss n w pc (some (.int v) :: t) st := by
  obtain ⟨p, e, R, s, m, args, below, meth, c, Q⟩ := x
  obtain ⟨hx, hb, hml, hr, hlk, hown, hts, hK, hR, hbs, hQ⟩ := C
  intro H locs ls hH hS hl
  obtain ⟨j, hj⟩ := List.getElem?_of_mem (mem_lvl (g := g) (L := (some (.int v) :: t)) (q := (0, .int v)) |>.mpr ⟨.int v, rfl, rfl⟩)
  exact lv_iinc hx hb hd hl hj hv hn rfl (fun ls2 hl2 => k H locs ls2 hH hS (lvl_set1 (v := .int u) hl2 (fun u e h => absurd h (Nat.lt_irrefl 0)) rfl))
theorem ww_iload1 (C : Ck g x cc nL own rt rm n' Post) {a0 : Option Value} {v : Int32} {t : List (Option Value)} (hd : decode cc pc = .ok (.iload_n 1, 1)) (k : WW g x nL cs ss n w (pc + 1) (a0 :: some (.int v) :: t) (.int v :: st)) : WW g x nL cs ss n w pc (a0 :: some (.int v) :: t) st := by
  obtain ⟨p, e, R, s, m, args, below, meth, c, Q⟩ := x
  obtain ⟨hx, hb, hml, hr, hlk, hown, hts, hK, hR, hbs, hQ⟩ := C
  intro H locs ls hH hS hl
  exact lv_iload_n hx hb hd rfl (hl.2.2 (1, tr g (.int v)) (mem_lvl.mpr ⟨_, rfl, rfl⟩)) (k H locs ls hH hS hl)
theorem ww_lload1 (C : Ck g x cc nL own rt rm n' Post) {a0 : Option Value} {v : Int64} {t : List (Option Value)} (hd : decode cc pc = .ok (.lload_n 1, 1)) (k : WW g x nL cs ss n w (pc + 1) (a0 :: some (.long v) :: t) (.long v :: st)) : WW g x nL cs ss n w pc (a0 :: some (.long v) :: t) st := by
  obtain ⟨p, e, R, s, m, args, below, meth, c, Q⟩ := x
  obtain ⟨hx, hb, hml, hr, hlk, hown, hts, hK, hR, hbs, hQ⟩ := C
  intro H locs ls hH hS hl
  exact lv_lload_n hx hb hd rfl (hl.2.2 (1, tr g (.long v)) (mem_lvl.mpr ⟨_, rfl, rfl⟩)) (k H locs ls hH hS hl)
theorem ww_aload1 (C : Ck g x cc nL own rt rm n' Post) {a0 : Option Value} {v : Nat} {t : List (Option Value)} (hd : decode cc pc = .ok (.aload_n 1, 1)) (k : WW g x nL cs ss n w (pc + 1) (a0 :: some (.ref v) :: t) (.ref v :: st)) : WW g x nL cs ss n w pc (a0 :: some (.ref v) :: t) st := by
  obtain ⟨p, e, R, s, m, args, below, meth, c, Q⟩ := x
  obtain ⟨hx, hb, hml, hr, hlk, hown, hts, hK, hR, hbs, hQ⟩ := C
  intro H locs ls hH hS hl
  exact lv_aload_n hx hb hd rfl (hl.2.2 (1, tr g (.ref v)) (mem_lvl.mpr ⟨_, rfl, rfl⟩)) (k H locs ls hH hS hl)
theorem ww_istore1 (C : Ck g x cc nL own rt rm n' Post) {a0 : Option Value} {a1 : Option Value} {v : Int32} {t : List (Option Value)} (hd : decode cc pc = .ok (.istore_n 1, 1)) (hn : 1 < nL) (hp : nl a0 = true) (k : WW g x nL cs ss n w (pc + 1) (a0 :: some (.int v) :: t) st) : WW g x nL cs ss n w pc (a0 :: a1 :: t) (.int v :: st) := by
  obtain ⟨p, e, R, s, m, args, below, meth, c, Q⟩ := x
  obtain ⟨hx, hb, hml, hr, hlk, hown, hts, hK, hR, hbs, hQ⟩ := C
  intro H locs ls hH hS hl
  exact lv_istore_n hx hb hd rfl hl hn rfl (fun ls2 hl2 => k H locs ls2 hH hS (lvl_set1 (v := .int v) hl2 (fun u e _ => nl_p hp u e) rfl))
theorem ww_astore1 (C : Ck g x cc nL own rt rm n' Post) {a0 : Option Value} {a1 : Option Value} {v : Nat} {t : List (Option Value)} (hd : decode cc pc = .ok (.astore_n 1, 1)) (hn : 1 < nL) (hp : nl a0 = true) (k : WW g x nL cs ss n w (pc + 1) (a0 :: some (.ref v) :: t) st) : WW g x nL cs ss n w pc (a0 :: a1 :: t) (.ref v :: st) := by
  obtain ⟨p, e, R, s, m, args, below, meth, c, Q⟩ := x
  obtain ⟨hx, hb, hml, hr, hlk, hown, hts, hK, hR, hbs, hQ⟩ := C
  intro H locs ls hH hS hl
  exact lv_astore_n hx hb hd rfl hl hn rfl (fun ls2 hl2 => k H locs ls2 hH hS (lvl_set1 (v := .ref v) hl2 (fun u e _ => nl_p hp u e) rfl))
theorem ww_lstore1 (C : Ck g x cc nL own rt rm n' Post) {a0 : Option Value} {a1 : Option Value} {a2 : Option Value} {v : Int64} {t : List (Option Value)} (hd : decode cc pc = .ok (.lstore_n 1, 1)) (hn : 2 < nL) (hp : nl a0 = true) (k : WW g x nL cs ss n w (pc + 1) (a0 :: some (.long v) :: none :: t) st) : WW g x nL cs ss n w pc (a0 :: a1 :: a2 :: t) (.long v :: st) := by
  obtain ⟨p, e, R, s, m, args, below, meth, c, Q⟩ := x
  obtain ⟨hx, hb, hml, hr, hlk, hown, hts, hK, hR, hbs, hQ⟩ := C
  intro H locs ls hH hS hl
  exact lv_lstore_n hx hb hd rfl hl hn rfl (fun ls2 hl2 => k H locs ls2 hH hS (lvl_set2 (v := .long v) hl2 (fun u e _ => nl_p hp u e) rfl))
theorem ww_iinc1 (C : Ck g x cc nL own rt rm n' Post) {a0 : Option Value} {v u : Int32} {z : Int} {t : List (Option Value)} (hd : decode cc pc = .ok (.iinc 1 z, 3)) (hv : v + Int32.ofInt z = u) (hn : 1 < nL) (hp : nl a0 = true) (k : WW g x nL cs ss n w (pc + 3) (a0 :: some (.int u) :: t) st) : WW g x nL cs ss n w pc (a0 :: some (.int v) :: t) st := by
  obtain ⟨p, e, R, s, m, args, below, meth, c, Q⟩ := x
  obtain ⟨hx, hb, hml, hr, hlk, hown, hts, hK, hR, hbs, hQ⟩ := C
  intro H locs ls hH hS hl
  obtain ⟨j, hj⟩ := List.getElem?_of_mem (mem_lvl (g := g) (L := (a0 :: some (.int v) :: t)) (q := (1, .int v)) |>.mpr ⟨.int v, rfl, rfl⟩)
  exact lv_iinc hx hb hd hl hj hv hn rfl (fun ls2 hl2 => k H locs ls2 hH hS (lvl_set1 (v := .int u) hl2 (fun u e _ => nl_p hp u e) rfl))
theorem ww_iload2 (C : Ck g x cc nL own rt rm n' Post) {a0 : Option Value} {a1 : Option Value} {v : Int32} {t : List (Option Value)} (hd : decode cc pc = .ok (.iload_n 2, 1)) (k : WW g x nL cs ss n w (pc + 1) (a0 :: a1 :: some (.int v) :: t) (.int v :: st)) : WW g x nL cs ss n w pc (a0 :: a1 :: some (.int v) :: t) st := by
  obtain ⟨p, e, R, s, m, args, below, meth, c, Q⟩ := x
  obtain ⟨hx, hb, hml, hr, hlk, hown, hts, hK, hR, hbs, hQ⟩ := C
  intro H locs ls hH hS hl
  exact lv_iload_n hx hb hd rfl (hl.2.2 (2, tr g (.int v)) (mem_lvl.mpr ⟨_, rfl, rfl⟩)) (k H locs ls hH hS hl)
theorem ww_lload2 (C : Ck g x cc nL own rt rm n' Post) {a0 : Option Value} {a1 : Option Value} {v : Int64} {t : List (Option Value)} (hd : decode cc pc = .ok (.lload_n 2, 1)) (k : WW g x nL cs ss n w (pc + 1) (a0 :: a1 :: some (.long v) :: t) (.long v :: st)) : WW g x nL cs ss n w pc (a0 :: a1 :: some (.long v) :: t) st := by
  obtain ⟨p, e, R, s, m, args, below, meth, c, Q⟩ := x
  obtain ⟨hx, hb, hml, hr, hlk, hown, hts, hK, hR, hbs, hQ⟩ := C
  intro H locs ls hH hS hl
  exact lv_lload_n hx hb hd rfl (hl.2.2 (2, tr g (.long v)) (mem_lvl.mpr ⟨_, rfl, rfl⟩)) (k H locs ls hH hS hl)
theorem ww_aload2 (C : Ck g x cc nL own rt rm n' Post) {a0 : Option Value} {a1 : Option Value} {v : Nat} {t : List (Option Value)} (hd : decode cc pc = .ok (.aload_n 2, 1)) (k : WW g x nL cs ss n w (pc + 1) (a0 :: a1 :: some (.ref v) :: t) (.ref v :: st)) : WW g x nL cs ss n w pc (a0 :: a1 :: some (.ref v) :: t) st := by
  obtain ⟨p, e, R, s, m, args, below, meth, c, Q⟩ := x
  obtain ⟨hx, hb, hml, hr, hlk, hown, hts, hK, hR, hbs, hQ⟩ := C
  intro H locs ls hH hS hl
  exact lv_aload_n hx hb hd rfl (hl.2.2 (2, tr g (.ref v)) (mem_lvl.mpr ⟨_, rfl, rfl⟩)) (k H locs ls hH hS hl)
theorem ww_istore2 (C : Ck g x cc nL own rt rm n' Post) {a0 : Option Value} {a1 : Option Value} {a2 : Option Value} {v : Int32} {t : List (Option Value)} (hd : decode cc pc = .ok (.istore_n 2, 1)) (hn : 2 < nL) (hp : nl a1 = true) (k : WW g x nL cs ss n w (pc + 1) (a0 :: a1 :: some (.int v) :: t) st) : WW g x nL cs ss n w pc (a0 :: a1 :: a2 :: t) (.int v :: st) := by
  obtain ⟨p, e, R, s, m, args, below, meth, c, Q⟩ := x
  obtain ⟨hx, hb, hml, hr, hlk, hown, hts, hK, hR, hbs, hQ⟩ := C
  intro H locs ls hH hS hl
  exact lv_istore_n hx hb hd rfl hl hn rfl (fun ls2 hl2 => k H locs ls2 hH hS (lvl_set1 (v := .int v) hl2 (fun u e _ => nl_p hp u e) rfl))
theorem ww_astore2 (C : Ck g x cc nL own rt rm n' Post) {a0 : Option Value} {a1 : Option Value} {a2 : Option Value} {v : Nat} {t : List (Option Value)} (hd : decode cc pc = .ok (.astore_n 2, 1)) (hn : 2 < nL) (hp : nl a1 = true) (k : WW g x nL cs ss n w (pc + 1) (a0 :: a1 :: some (.ref v) :: t) st) : WW g x nL cs ss n w pc (a0 :: a1 :: a2 :: t) (.ref v :: st) := by
  obtain ⟨p, e, R, s, m, args, below, meth, c, Q⟩ := x
  obtain ⟨hx, hb, hml, hr, hlk, hown, hts, hK, hR, hbs, hQ⟩ := C
  intro H locs ls hH hS hl
  exact lv_astore_n hx hb hd rfl hl hn rfl (fun ls2 hl2 => k H locs ls2 hH hS (lvl_set1 (v := .ref v) hl2 (fun u e _ => nl_p hp u e) rfl))
theorem ww_lstore2 (C : Ck g x cc nL own rt rm n' Post) {a0 : Option Value} {a1 : Option Value} {a2 : Option Value} {a3 : Option Value} {v : Int64} {t : List (Option Value)} (hd : decode cc pc = .ok (.lstore_n 2, 1)) (hn : 3 < nL) (hp : nl a1 = true) (k : WW g x nL cs ss n w (pc + 1) (a0 :: a1 :: some (.long v) :: none :: t) st) : WW g x nL cs ss n w pc (a0 :: a1 :: a2 :: a3 :: t) (.long v :: st) := by
  obtain ⟨p, e, R, s, m, args, below, meth, c, Q⟩ := x
  obtain ⟨hx, hb, hml, hr, hlk, hown, hts, hK, hR, hbs, hQ⟩ := C
  intro H locs ls hH hS hl
  exact lv_lstore_n hx hb hd rfl hl hn rfl (fun ls2 hl2 => k H locs ls2 hH hS (lvl_set2 (v := .long v) hl2 (fun u e _ => nl_p hp u e) rfl))
theorem ww_iinc2 (C : Ck g x cc nL own rt rm n' Post) {a0 : Option Value} {a1 : Option Value} {v u : Int32} {z : Int} {t : List (Option Value)} (hd : decode cc pc = .ok (.iinc 2 z, 3)) (hv : v + Int32.ofInt z = u) (hn : 2 < nL) (hp : nl a1 = true) (k : WW g x nL cs ss n w (pc + 3) (a0 :: a1 :: some (.int u) :: t) st) : WW g x nL cs ss n w pc (a0 :: a1 :: some (.int v) :: t) st := by
  obtain ⟨p, e, R, s, m, args, below, meth, c, Q⟩ := x
  obtain ⟨hx, hb, hml, hr, hlk, hown, hts, hK, hR, hbs, hQ⟩ := C
  intro H locs ls hH hS hl
  obtain ⟨j, hj⟩ := List.getElem?_of_mem (mem_lvl (g := g) (L := (a0 :: a1 :: some (.int v) :: t)) (q := (2, .int v)) |>.mpr ⟨.int v, rfl, rfl⟩)
  exact lv_iinc hx hb hd hl hj hv hn rfl (fun ls2 hl2 => k H locs ls2 hH hS (lvl_set1 (v := .int u) hl2 (fun u e _ => nl_p hp u e) rfl))
theorem ww_iload3 (C : Ck g x cc nL own rt rm n' Post) {a0 : Option Value} {a1 : Option Value} {a2 : Option Value} {v : Int32} {t : List (Option Value)} (hd : decode cc pc = .ok (.iload_n 3, 1)) (k : WW g x nL cs ss n w (pc + 1) (a0 :: a1 :: a2 :: some (.int v) :: t) (.int v :: st)) : WW g x nL cs ss n w pc (a0 :: a1 :: a2 :: some (.int v) :: t) st := by
  obtain ⟨p, e, R, s, m, args, below, meth, c, Q⟩ := x
  obtain ⟨hx, hb, hml, hr, hlk, hown, hts, hK, hR, hbs, hQ⟩ := C
  intro H locs ls hH hS hl
  exact lv_iload_n hx hb hd rfl (hl.2.2 (3, tr g (.int v)) (mem_lvl.mpr ⟨_, rfl, rfl⟩)) (k H locs ls hH hS hl)
theorem ww_lload3 (C : Ck g x cc nL own rt rm n' Post) {a0 : Option Value} {a1 : Option Value} {a2 : Option Value} {v : Int64} {t : List (Option Value)} (hd : decode cc pc = .ok (.lload_n 3, 1)) (k : WW g x nL cs ss n w (pc + 1) (a0 :: a1 :: a2 :: some (.long v) :: t) (.long v :: st)) : WW g x nL cs ss n w pc (a0 :: a1 :: a2 :: some (.long v) :: t) st := by
  obtain ⟨p, e, R, s, m, args, below, meth, c, Q⟩ := x
  obtain ⟨hx, hb, hml, hr, hlk, hown, hts, hK, hR, hbs, hQ⟩ := C
  intro H locs ls hH hS hl
  exact lv_lload_n hx hb hd rfl (hl.2.2 (3, tr g (.long v)) (mem_lvl.mpr ⟨_, rfl, rfl⟩)) (k H locs ls hH hS hl)
theorem ww_aload3 (C : Ck g x cc nL own rt rm n' Post) {a0 : Option Value} {a1 : Option Value} {a2 : Option Value} {v : Nat} {t : List (Option Value)} (hd : decode cc pc = .ok (.aload_n 3, 1)) (k : WW g x nL cs ss n w (pc + 1) (a0 :: a1 :: a2 :: some (.ref v) :: t) (.ref v :: st)) : WW g x nL cs ss n w pc (a0 :: a1 :: a2 :: some (.ref v) :: t) st := by
  obtain ⟨p, e, R, s, m, args, below, meth, c, Q⟩ := x
  obtain ⟨hx, hb, hml, hr, hlk, hown, hts, hK, hR, hbs, hQ⟩ := C
  intro H locs ls hH hS hl
  exact lv_aload_n hx hb hd rfl (hl.2.2 (3, tr g (.ref v)) (mem_lvl.mpr ⟨_, rfl, rfl⟩)) (k H locs ls hH hS hl)
theorem ww_istore3 (C : Ck g x cc nL own rt rm n' Post) {a0 : Option Value} {a1 : Option Value} {a2 : Option Value} {a3 : Option Value} {v : Int32} {t : List (Option Value)} (hd : decode cc pc = .ok (.istore_n 3, 1)) (hn : 3 < nL) (hp : nl a2 = true) (k : WW g x nL cs ss n w (pc + 1) (a0 :: a1 :: a2 :: some (.int v) :: t) st) : WW g x nL cs ss n w pc (a0 :: a1 :: a2 :: a3 :: t) (.int v :: st) := by
  obtain ⟨p, e, R, s, m, args, below, meth, c, Q⟩ := x
  obtain ⟨hx, hb, hml, hr, hlk, hown, hts, hK, hR, hbs, hQ⟩ := C
  intro H locs ls hH hS hl
  exact lv_istore_n hx hb hd rfl hl hn rfl (fun ls2 hl2 => k H locs ls2 hH hS (lvl_set1 (v := .int v) hl2 (fun u e _ => nl_p hp u e) rfl))
theorem ww_astore3 (C : Ck g x cc nL own rt rm n' Post) {a0 : Option Value} {a1 : Option Value} {a2 : Option Value} {a3 : Option Value} {v : Nat} {t : List (Option Value)} (hd : decode cc pc = .ok (.astore_n 3, 1)) (hn : 3 < nL) (hp : nl a2 = true) (k : WW g x nL cs ss n w (pc + 1) (a0 :: a1 :: a2 :: some (.ref v) :: t) st) : WW g x nL cs ss n w pc (a0 :: a1 :: a2 :: a3 :: t) (.ref v :: st) := by
  obtain ⟨p, e, R, s, m, args, below, meth, c, Q⟩ := x
  obtain ⟨hx, hb, hml, hr, hlk, hown, hts, hK, hR, hbs, hQ⟩ := C
  intro H locs ls hH hS hl
  exact lv_astore_n hx hb hd rfl hl hn rfl (fun ls2 hl2 => k H locs ls2 hH hS (lvl_set1 (v := .ref v) hl2 (fun u e _ => nl_p hp u e) rfl))
theorem ww_lstore3 (C : Ck g x cc nL own rt rm n' Post) {a0 : Option Value} {a1 : Option Value} {a2 : Option Value} {a3 : Option Value} {a4 : Option Value} {v : Int64} {t : List (Option Value)} (hd : decode cc pc = .ok (.lstore_n 3, 1)) (hn : 4 < nL) (hp : nl a2 = true) (k : WW g x nL cs ss n w (pc + 1) (a0 :: a1 :: a2 :: some (.long v) :: none :: t) st) : WW g x nL cs ss n w pc (a0 :: a1 :: a2 :: a3 :: a4 :: t) (.long v :: st) := by
  obtain ⟨p, e, R, s, m, args, below, meth, c, Q⟩ := x
  obtain ⟨hx, hb, hml, hr, hlk, hown, hts, hK, hR, hbs, hQ⟩ := C
  intro H locs ls hH hS hl
  exact lv_lstore_n hx hb hd rfl hl hn rfl (fun ls2 hl2 => k H locs ls2 hH hS (lvl_set2 (v := .long v) hl2 (fun u e _ => nl_p hp u e) rfl))
theorem ww_iinc3 (C : Ck g x cc nL own rt rm n' Post) {a0 : Option Value} {a1 : Option Value} {a2 : Option Value} {v u : Int32} {z : Int} {t : List (Option Value)} (hd : decode cc pc = .ok (.iinc 3 z, 3)) (hv : v + Int32.ofInt z = u) (hn : 3 < nL) (hp : nl a2 = true) (k : WW g x nL cs ss n w (pc + 3) (a0 :: a1 :: a2 :: some (.int u) :: t) st) : WW g x nL cs ss n w pc (a0 :: a1 :: a2 :: some (.int v) :: t) st := by
  obtain ⟨p, e, R, s, m, args, below, meth, c, Q⟩ := x
  obtain ⟨hx, hb, hml, hr, hlk, hown, hts, hK, hR, hbs, hQ⟩ := C
  intro H locs ls hH hS hl
  obtain ⟨j, hj⟩ := List.getElem?_of_mem (mem_lvl (g := g) (L := (a0 :: a1 :: a2 :: some (.int v) :: t)) (q := (3, .int v)) |>.mpr ⟨.int v, rfl, rfl⟩)
  exact lv_iinc hx hb hd hl hj hv hn rfl (fun ls2 hl2 => k H locs ls2 hH hS (lvl_set1 (v := .int u) hl2 (fun u e _ => nl_p hp u e) rfl))
theorem ww_iload4 (C : Ck g x cc nL own rt rm n' Post) {a0 : Option Value} {a1 : Option Value} {a2 : Option Value} {a3 : Option Value} {v : Int32} {t : List (Option Value)} (hd : decode cc pc = .ok (.iload 4, 2)) (k : WW g x nL cs ss n w (pc + 2) (a0 :: a1 :: a2 :: a3 :: some (.int v) :: t) (.int v :: st)) : WW g x nL cs ss n w pc (a0 :: a1 :: a2 :: a3 :: some (.int v) :: t) st := by
  obtain ⟨p, e, R, s, m, args, below, meth, c, Q⟩ := x
  obtain ⟨hx, hb, hml, hr, hlk, hown, hts, hK, hR, hbs, hQ⟩ := C
  intro H locs ls hH hS hl
  exact lv_iload hx hb hd (hl.2.2 (4, tr g (.int v)) (mem_lvl.mpr ⟨_, rfl, rfl⟩)) (k H locs ls hH hS hl)
theorem ww_lload4 (C : Ck g x cc nL own rt rm n' Post) {a0 : Option Value} {a1 : Option Value} {a2 : Option Value} {a3 : Option Value} {v : Int64} {t : List (Option Value)} (hd : decode cc pc = .ok (.lload 4, 2)) (k : WW g x nL cs ss n w (pc + 2) (a0 :: a1 :: a2 :: a3 :: some (.long v) :: t) (.long v :: st)) : WW g x nL cs ss n w pc (a0 :: a1 :: a2 :: a3 :: some (.long v) :: t) st := by
  obtain ⟨p, e, R, s, m, args, below, meth, c, Q⟩ := x
  obtain ⟨hx, hb, hml, hr, hlk, hown, hts, hK, hR, hbs, hQ⟩ := C
  intro H locs ls hH hS hl
  exact lv_lload hx hb hd (hl.2.2 (4, tr g (.long v)) (mem_lvl.mpr ⟨_, rfl, rfl⟩)) (k H locs ls hH hS hl)
theorem ww_aload4 (C : Ck g x cc nL own rt rm n' Post) {a0 : Option Value} {a1 : Option Value} {a2 : Option Value} {a3 : Option Value} {v : Nat} {t : List (Option Value)} (hd : decode cc pc = .ok (.aload 4, 2)) (k : WW g x nL cs ss n w (pc + 2) (a0 :: a1 :: a2 :: a3 :: some (.ref v) :: t) (.ref v :: st)) : WW g x nL cs ss n w pc (a0 :: a1 :: a2 :: a3 :: some (.ref v) :: t) st := by
  obtain ⟨p, e, R, s, m, args, below, meth, c, Q⟩ := x
  obtain ⟨hx, hb, hml, hr, hlk, hown, hts, hK, hR, hbs, hQ⟩ := C
  intro H locs ls hH hS hl
  exact lv_aload hx hb hd (hl.2.2 (4, tr g (.ref v)) (mem_lvl.mpr ⟨_, rfl, rfl⟩)) (k H locs ls hH hS hl)
theorem ww_istore4 (C : Ck g x cc nL own rt rm n' Post) {a0 : Option Value} {a1 : Option Value} {a2 : Option Value} {a3 : Option Value} {a4 : Option Value} {v : Int32} {t : List (Option Value)} (hd : decode cc pc = .ok (.istore 4, 2)) (hn : 4 < nL) (hp : nl a3 = true) (k : WW g x nL cs ss n w (pc + 2) (a0 :: a1 :: a2 :: a3 :: some (.int v) :: t) st) : WW g x nL cs ss n w pc (a0 :: a1 :: a2 :: a3 :: a4 :: t) (.int v :: st) := by
  obtain ⟨p, e, R, s, m, args, below, meth, c, Q⟩ := x
  obtain ⟨hx, hb, hml, hr, hlk, hown, hts, hK, hR, hbs, hQ⟩ := C
  intro H locs ls hH hS hl
  exact lv_istore hx hb hd hl hn rfl (fun ls2 hl2 => k H locs ls2 hH hS (lvl_set1 (v := .int v) hl2 (fun u e _ => nl_p hp u e) rfl))
theorem ww_astore4 (C : Ck g x cc nL own rt rm n' Post) {a0 : Option Value} {a1 : Option Value} {a2 : Option Value} {a3 : Option Value} {a4 : Option Value} {v : Nat} {t : List (Option Value)} (hd : decode cc pc = .ok (.astore 4, 2)) (hn : 4 < nL) (hp : nl a3 = true) (k : WW g x nL cs ss n w (pc + 2) (a0 :: a1 :: a2 :: a3 :: some (.ref v) :: t) st) : WW g x nL cs ss n w pc (a0 :: a1 :: a2 :: a3 :: a4 :: t) (.ref v :: st) := by
  obtain ⟨p, e, R, s, m, args, below, meth, c, Q⟩ := x
  obtain ⟨hx, hb, hml, hr, hlk, hown, hts, hK, hR, hbs, hQ⟩ := C
  intro H locs ls hH hS hl
  exact lv_astore hx hb hd hl hn rfl (fun ls2 hl2 => k H locs ls2 hH hS (lvl_set1 (v := .ref v) hl2 (fun u e _ => nl_p hp u e) rfl))
theorem ww_lstore4 (C : Ck g x cc nL own rt rm n' Post) {a0 : Option Value} {a1 : Option Value} {a2 : Option Value} {a3 : Option Value} {a4 : Option Value} {a5 : Option Value} {v : Int64} {t : List (Option Value)} (hd : decode cc pc = .ok (.lstore 4, 2)) (hn : 5 < nL) (hp : nl a3 = true) (k : WW g x nL cs ss n w (pc + 2) (a0 :: a1 :: a2 :: a3 :: some (.long v) :: none :: t) st) : WW g x nL cs ss n w pc (a0 :: a1 :: a2 :: a3 :: a4 :: a5 :: t) (.long v :: st) := by
  obtain ⟨p, e, R, s, m, args, below, meth, c, Q⟩ := x
  obtain ⟨hx, hb, hml, hr, hlk, hown, hts, hK, hR, hbs, hQ⟩ := C
  intro H locs ls hH hS hl
  exact lv_lstore hx hb hd hl hn rfl (fun ls2 hl2 => k H locs ls2 hH hS (lvl_set2 (v := .long v) hl2 (fun u e _ => nl_p hp u e) rfl))
theorem ww_iinc4 (C : Ck g x cc nL own rt rm n' Post) {a0 : Option Value} {a1 : Option Value} {a2 : Option Value} {a3 : Option Value} {v u : Int32} {z : Int} {t : List (Option Value)} (hd : decode cc pc = .ok (.iinc 4 z, 3)) (hv : v + Int32.ofInt z = u) (hn : 4 < nL) (hp : nl a3 = true) (k : WW g x nL cs ss n w (pc + 3) (a0 :: a1 :: a2 :: a3 :: some (.int u) :: t) st) : WW g x nL cs ss n w pc (a0 :: a1 :: a2 :: a3 :: some (.int v) :: t) st := by
  obtain ⟨p, e, R, s, m, args, below, meth, c, Q⟩ := x
  obtain ⟨hx, hb, hml, hr, hlk, hown, hts, hK, hR, hbs, hQ⟩ := C
  intro H locs ls hH hS hl
  obtain ⟨j, hj⟩ := List.getElem?_of_mem (mem_lvl (g := g) (L := (a0 :: a1 :: a2 :: a3 :: some (.int v) :: t)) (q := (4, .int v)) |>.mpr ⟨.int v, rfl, rfl⟩)
  exact lv_iinc hx hb hd hl hj hv hn rfl (fun ls2 hl2 => k H locs ls2 hH hS (lvl_set1 (v := .int u) hl2 (fun u e _ => nl_p hp u e) rfl))
theorem ww_iload5 (C : Ck g x cc nL own rt rm n' Post) {a0 : Option Value} {a1 : Option Value} {a2 : Option Value} {a3 : Option Value} {a4 : Option Value} {v : Int32} {t : List (Option Value)} (hd : decode cc pc = .ok (.iload 5, 2)) (k : WW g x nL cs ss n w (pc + 2) (a0 :: a1 :: a2 :: a3 :: a4 :: some (.int v) :: t) (.int v :: st)) : WW g x nL cs ss n w pc (a0 :: a1 :: a2 :: a3 :: a4 :: some (.int v) :: t) st := by
  obtain ⟨p, e, R, s, m, args, below, meth, c, Q⟩ := x
  obtain ⟨hx, hb, hml, hr, hlk, hown, hts, hK, hR, hbs, hQ⟩ := C
  intro H locs ls hH hS hl
  exact lv_iload hx hb hd (hl.2.2 (5, tr g (.int v)) (mem_lvl.mpr ⟨_, rfl, rfl⟩)) (k H locs ls hH hS hl)
theorem ww_lload5 (C : Ck g x cc nL own rt rm n' Post) {a0 : Option Value} {a1 : Option Value} {a2 : Option Value} {a3 : Option Value} {a4 : Option Value} {v : Int64} {t : List (Option Value)} (hd : decode cc pc = .ok (.lload 5, 2)) (k : WW g x nL cs ss n w (pc + 2) (a0 :: a1 :: a2 :: a3 :: a4 :: some (.long v) :: t) (.long v :: st)) : WW g x nL cs ss n w pc (a0 :: a1 :: a2 :: a3 :: a4 :: some (.long v) :: t) st := by
  obtain ⟨p, e, R, s, m, args, below, meth, c, Q⟩ := x
  obtain ⟨hx, hb, hml, hr, hlk, hown, hts, hK, hR, hbs, hQ⟩ := C
  intro H locs ls hH hS hl
  exact lv_lload hx hb hd (hl.2.2 (5, tr g (.long v)) (mem_lvl.mpr ⟨_, rfl, rfl⟩)) (k H locs ls hH hS hl)
theorem ww_aload5 (C : Ck g x cc nL own rt rm n' Post) {a0 : Option Value} {a1 : Option Value} {a2 : Option Value} {a3 : Option Value} {a4 : Option Value} {v : Nat} {t : List (Option Value)} (hd : decode cc pc = .ok (.aload 5, 2)) (k : WW g x nL cs ss n w (pc + 2) (a0 :: a1 :: a2 :: a3 :: a4 :: some (.ref v) :: t) (.ref v :: st)) : WW g x nL cs ss n w pc (a0 :: a1 :: a2 :: a3 :: a4 :: some (.ref v) :: t) st := by
  obtain ⟨p, e, R, s, m, args, below, meth, c, Q⟩ := x
  obtain ⟨hx, hb, hml, hr, hlk, hown, hts, hK, hR, hbs, hQ⟩ := C
  intro H locs ls hH hS hl
  exact lv_aload hx hb hd (hl.2.2 (5, tr g (.ref v)) (mem_lvl.mpr ⟨_, rfl, rfl⟩)) (k H locs ls hH hS hl)
theorem ww_istore5 (C : Ck g x cc nL own rt rm n' Post) {a0 : Option Value} {a1 : Option Value} {a2 : Option Value} {a3 : Option Value} {a4 : Option Value} {a5 : Option Value} {v : Int32} {t : List (Option Value)} (hd : decode cc pc = .ok (.istore 5, 2)) (hn : 5 < nL) (hp : nl a4 = true) (k : WW g x nL cs ss n w (pc + 2) (a0 :: a1 :: a2 :: a3 :: a4 :: some (.int v) :: t) st) : WW g x nL cs ss n w pc (a0 :: a1 :: a2 :: a3 :: a4 :: a5 :: t) (.int v :: st) := by
  obtain ⟨p, e, R, s, m, args, below, meth, c, Q⟩ := x
  obtain ⟨hx, hb, hml, hr, hlk, hown, hts, hK, hR, hbs, hQ⟩ := C
  intro H locs ls hH hS hl
  exact lv_istore hx hb hd hl hn rfl (fun ls2 hl2 => k H locs ls2 hH hS (lvl_set1 (v := .int v) hl2 (fun u e _ => nl_p hp u e) rfl))
theorem ww_astore5 (C : Ck g x cc nL own rt rm n' Post) {a0 : Option Value} {a1 : Option Value} {a2 : Option Value} {a3 : Option Value} {a4 : Option Value} {a5 : Option Value} {v : Nat} {t : List (Option Value)} (hd : decode cc pc = .ok (.astore 5, 2)) (hn : 5 < nL) (hp : nl a4 = true) (k : WW g x nL cs ss n w (pc + 2) (a0 :: a1 :: a2 :: a3 :: a4 :: some (.ref v) :: t) st) : WW g x nL cs ss n w pc (a0 :: a1 :: a2 :: a3 :: a4 :: a5 :: t) (.ref v :: st) := by
  obtain ⟨p, e, R, s, m, args, below, meth, c, Q⟩ := x
  obtain ⟨hx, hb, hml, hr, hlk, hown, hts, hK, hR, hbs, hQ⟩ := C
  intro H locs ls hH hS hl
  exact lv_astore hx hb hd hl hn rfl (fun ls2 hl2 => k H locs ls2 hH hS (lvl_set1 (v := .ref v) hl2 (fun u e _ => nl_p hp u e) rfl))
theorem ww_lstore5 (C : Ck g x cc nL own rt rm n' Post) {a0 : Option Value} {a1 : Option Value} {a2 : Option Value} {a3 : Option Value} {a4 : Option Value} {a5 : Option Value} {a6 : Option Value} {v : Int64} {t : List (Option Value)} (hd : decode cc pc = .ok (.lstore 5, 2)) (hn : 6 < nL) (hp : nl a4 = true) (k : WW g x nL cs ss n w (pc + 2) (a0 :: a1 :: a2 :: a3 :: a4 :: some (.long v) :: none :: t) st) : WW g x nL cs ss n w pc (a0 :: a1 :: a2 :: a3 :: a4 :: a5 :: a6 :: t) (.long v :: st) := by
  obtain ⟨p, e, R, s, m, args, below, meth, c, Q⟩ := x
  obtain ⟨hx, hb, hml, hr, hlk, hown, hts, hK, hR, hbs, hQ⟩ := C
  intro H locs ls hH hS hl
  exact lv_lstore hx hb hd hl hn rfl (fun ls2 hl2 => k H locs ls2 hH hS (lvl_set2 (v := .long v) hl2 (fun u e _ => nl_p hp u e) rfl))
theorem ww_iinc5 (C : Ck g x cc nL own rt rm n' Post) {a0 : Option Value} {a1 : Option Value} {a2 : Option Value} {a3 : Option Value} {a4 : Option Value} {v u : Int32} {z : Int} {t : List (Option Value)} (hd : decode cc pc = .ok (.iinc 5 z, 3)) (hv : v + Int32.ofInt z = u) (hn : 5 < nL) (hp : nl a4 = true) (k : WW g x nL cs ss n w (pc + 3) (a0 :: a1 :: a2 :: a3 :: a4 :: some (.int u) :: t) st) : WW g x nL cs ss n w pc (a0 :: a1 :: a2 :: a3 :: a4 :: some (.int v) :: t) st := by
  obtain ⟨p, e, R, s, m, args, below, meth, c, Q⟩ := x
  obtain ⟨hx, hb, hml, hr, hlk, hown, hts, hK, hR, hbs, hQ⟩ := C
  intro H locs ls hH hS hl
  obtain ⟨j, hj⟩ := List.getElem?_of_mem (mem_lvl (g := g) (L := (a0 :: a1 :: a2 :: a3 :: a4 :: some (.int v) :: t)) (q := (5, .int v)) |>.mpr ⟨.int v, rfl, rfl⟩)
  exact lv_iinc hx hb hd hl hj hv hn rfl (fun ls2 hl2 => k H locs ls2 hH hS (lvl_set1 (v := .int u) hl2 (fun u e _ => nl_p hp u e) rfl))
theorem ww_iload6 (C : Ck g x cc nL own rt rm n' Post) {a0 : Option Value} {a1 : Option Value} {a2 : Option Value} {a3 : Option Value} {a4 : Option Value} {a5 : Option Value} {v : Int32} {t : List (Option Value)} (hd : decode cc pc = .ok (.iload 6, 2)) (k : WW g x nL cs ss n w (pc + 2) (a0 :: a1 :: a2 :: a3 :: a4 :: a5 :: some (.int v) :: t) (.int v :: st)) : WW g x nL cs ss n w pc (a0 :: a1 :: a2 :: a3 :: a4 :: a5 :: some (.int v) :: t) st := by
  obtain ⟨p, e, R, s, m, args, below, meth, c, Q⟩ := x
  obtain ⟨hx, hb, hml, hr, hlk, hown, hts, hK, hR, hbs, hQ⟩ := C
  intro H locs ls hH hS hl
  exact lv_iload hx hb hd (hl.2.2 (6, tr g (.int v)) (mem_lvl.mpr ⟨_, rfl, rfl⟩)) (k H locs ls hH hS hl)
theorem ww_lload6 (C : Ck g x cc nL own rt rm n' Post) {a0 : Option Value} {a1 : Option Value} {a2 : Option Value} {a3 : Option Value} {a4 : Option Value} {a5 : Option Value} {v : Int64} {t : List (Option Value)} (hd : decode cc pc = .ok (.lload 6, 2)) (k : WW g x nL cs ss n w (pc + 2) (a0 :: a1 :: a2 :: a3 :: a4 :: a5 :: some (.long v) :: t) (.long v :: st)) : WW g x nL cs ss n w pc (a0 :: a1 :: a2 :: a3 :: a4 :: a5 :: some (.long v) :: t) st := by
  obtain ⟨p, e, R, s, m, args, below, meth, c, Q⟩ := x
  obtain ⟨hx, hb, hml, hr, hlk, hown, hts, hK, hR, hbs, hQ⟩ := C
  intro H locs ls hH hS hl
  exact lv_lload hx hb hd (hl.2.2 (6, tr g (.long v)) (mem_lvl.mpr ⟨_, rfl, rfl⟩)) (k H locs ls hH hS hl)
theorem ww_aload6 (C : Ck g x cc nL own rt rm n' Post) {a0 : Option Value} {a1 : Option Value} {a2 : Option Value} {a3 : Option Value} {a4 : Option Value} {a5 : Option Value} {v : Nat} {t : List (Option Value)} (hd : decode cc pc = .ok (.aload 6, 2)) (k : WW g x nL cs ss n w (pc + 2) (a0 :: a1 :: a2 :: a3 :: a4 :: a5 :: some (.ref v) :: t) (.ref v :: st)) : WW g x nL cs ss n w pc (a0 :: a1 :: a2 :: a3 :: a4 :: a5 :: some (.ref v) :: t) st := by
  obtain ⟨p, e, R, s, m, args, below, meth, c, Q⟩ := x
  obtain ⟨hx, hb, hml, hr, hlk, hown, hts, hK, hR, hbs, hQ⟩ := C
  intro H locs ls hH hS hl
  exact lv_aload hx hb hd (hl.2.2 (6, tr g (.ref v)) (mem_lvl.mpr ⟨_, rfl, rfl⟩)) (k H locs ls hH hS hl)
theorem ww_istore6 (C : Ck g x cc nL own rt rm n' Post) {a0 : Option Value} {a1 : Option Value} {a2 : Option Value} {a3 : Option Value} {a4 : Option Value} {a5 : Option Value} {a6 : Option Value} {v : Int32} {t : List (Option Value)} (hd : decode cc pc = .ok (.istore 6, 2)) (hn : 6 < nL) (hp : nl a5 = true) (k : WW g x nL cs ss n w (pc + 2) (a0 :: a1 :: a2 :: a3 :: a4 :: a5 :: some (.int v) :: t) st) : WW g x nL cs ss n w pc (a0 :: a1 :: a2 :: a3 :: a4 :: a5 :: a6 :: t) (.int v :: st) := by
  obtain ⟨p, e, R, s, m, args, below, meth, c, Q⟩ := x
  obtain ⟨hx, hb, hml, hr, hlk, hown, hts, hK, hR, hbs, hQ⟩ := C
  intro H locs ls hH hS hl
  exact lv_istore hx hb hd hl hn rfl (fun ls2 hl2 => k H locs ls2 hH hS (lvl_set1 (v := .int v) hl2 (fun u e _ => nl_p hp u e) rfl))
theorem ww_astore6 (C : Ck g x cc nL own rt rm n' Post) {a0 : Option Value} {a1 : Option Value} {a2 : Option Value} {a3 : Option Value} {a4 : Option Value} {a5 : Option Value} {a6 : Option Value} {v : Nat} {t : List (Option Value)} (hd : decode cc pc = .ok (.astore 6, 2)) (hn : 6 < nL) (hp : nl a5 = true) (k : WW g x nL cs ss n w (pc + 2) (a0 :: a1 :: a2 :: a3 :: a4 :: a5 :: some (.ref v) :: t) st) : WW g x nL cs ss n w pc (a0 :: a1 :: a2 :: a3 :: a4 :: a5 :: a6 :: t) (.ref v :: st) := by
  obtain ⟨p, e, R, s, m, args, below, meth, c, Q⟩ := x
  obtain ⟨hx, hb, hml, hr, hlk, hown, hts, hK, hR, hbs, hQ⟩ := C
  intro H locs ls hH hS hl
  exact lv_astore hx hb hd hl hn rfl (fun ls2 hl2 => k H locs ls2 hH hS (lvl_set1 (v := .ref v) hl2 (fun u e _ => nl_p hp u e) rfl))
theorem ww_lstore6 (C : Ck g x cc nL own rt rm n' Post) {a0 : Option Value} {a1 : Option Value} {a2 : Option Value} {a3 : Option Value} {a4 : Option Value} {a5 : Option Value} {a6 : Option Value} {a7 : Option Value} {v : Int64} {t : List (Option Value)} (hd : decode cc pc = .ok (.lstore 6, 2)) (hn : 7 < nL) (hp : nl a5 = true) (k : WW g x nL cs ss n w (pc + 2) (a0 :: a1 :: a2 :: a3 :: a4 :: a5 :: some (.long v) :: none :: t) st) : WW g x nL cs ss n w pc (a0 :: a1 :: a2 :: a3 :: a4 :: a5 :: a6 :: a7 :: t) (.long v :: st) := by
  obtain ⟨p, e, R, s, m, args, below, meth, c, Q⟩ := x
  obtain ⟨hx, hb, hml, hr, hlk, hown, hts, hK, hR, hbs, hQ⟩ := C
  intro H locs ls hH hS hl
  exact lv_lstore hx hb hd hl hn rfl (fun ls2 hl2 => k H locs ls2 hH hS (lvl_set2 (v := .long v) hl2 (fun u e _ => nl_p hp u e) rfl))
theorem ww_iinc6 (C : Ck g x cc nL own rt rm n' Post) {a0 : Option Value} {a1 : Option Value} {a2 : Option Value} {a3 : Option Value} {a4 : Option Value} {a5 : Option Value} {v u : Int32} {z : Int} {t : List (Option Value)} (hd : decode cc pc = .ok (.iinc 6 z, 3)) (hv : v + Int32.ofInt z = u) (hn : 6 < nL) (hp : nl a5 = true) (k : WW g x nL cs ss n w (pc + 3) (a0 :: a1 :: a2 :: a3 :: a4 :: a5 :: some (.int u) :: t) st) : WW g x nL cs ss n w pc (a0 :: a1 :: a2 :: a3 :: a4 :: a5 :: some (.int v) :: t) st := by
  obtain ⟨p, e, R, s, m, args, below, meth, c, Q⟩ := x
  obtain ⟨hx, hb, hml, hr, hlk, hown, hts, hK, hR, hbs, hQ⟩ := C
  intro H locs ls hH hS hl
  obtain ⟨j, hj⟩ := List.getElem?_of_mem (mem_lvl (g := g) (L := (a0 :: a1 :: a2 :: a3 :: a4 :: a5 :: some (.int v) :: t)) (q := (6, .int v)) |>.mpr ⟨.int v, rfl, rfl⟩)
  exact lv_iinc hx hb hd hl hj hv hn rfl (fun ls2 hl2 => k H locs ls2 hH hS (lvl_set1 (v := .int u) hl2 (fun u e _ => nl_p hp u e) rfl))
theorem ww_iload7 (C : Ck g x cc nL own rt rm n' Post) {a0 : Option Value} {a1 : Option Value} {a2 : Option Value} {a3 : Option Value} {a4 : Option Value} {a5 : Option Value} {a6 : Option Value} {v : Int32} {t : List (Option Value)} (hd : decode cc pc = .ok (.iload 7, 2)) (k : WW g x nL cs ss n w (pc + 2) (a0 :: a1 :: a2 :: a3 :: a4 :: a5 :: a6 :: some (.int v) :: t) (.int v :: st)) : WW g x nL cs ss n w pc (a0 :: a1 :: a2 :: a3 :: a4 :: a5 :: a6 :: some (.int v) :: t) st := by
  obtain ⟨p, e, R, s, m, args, below, meth, c, Q⟩ := x
  obtain ⟨hx, hb, hml, hr, hlk, hown, hts, hK, hR, hbs, hQ⟩ := C
  intro H locs ls hH hS hl
  exact lv_iload hx hb hd (hl.2.2 (7, tr g (.int v)) (mem_lvl.mpr ⟨_, rfl, rfl⟩)) (k H locs ls hH hS hl)
theorem ww_lload7 (C : Ck g x cc nL own rt rm n' Post) {a0 : Option Value} {a1 : Option Value} {a2 : Option Value} {a3 : Option Value} {a4 : Option Value} {a5 : Option Value} {a6 : Option Value} {v : Int64} {t : List (Option Value)} (hd : decode cc pc = .ok (.lload 7, 2)) (k : WW g x nL cs ss n w (pc + 2) (a0 :: a1 :: a2 :: a3 :: a4 :: a5 :: a6 :: some (.long v) :: t) (.long v :: st)) : WW g x nL cs ss n w pc (a0 :: a1 :: a2 :: a3 :: a4 :: a5 :: a6 :: some (.long v) :: t) st := by
  obtain ⟨p, e, R, s, m, args, below, meth, c, Q⟩ := x
  obtain ⟨hx, hb, hml, hr, hlk, hown, hts, hK, hR, hbs, hQ⟩ := C
  intro H locs ls hH hS hl
  exact lv_lload hx hb hd (hl.2.2 (7, tr g (.long v)) (mem_lvl.mpr ⟨_, rfl, rfl⟩)) (k H locs ls hH hS hl)
theorem ww_aload7 (C : Ck g x cc nL own rt rm n' Post) {a0 : Option Value} {a1 : Option Value} {a2 : Option Value} {a3 : Option Value} {a4 : Option Value} {a5 : Option Value} {a6 : Option Value} {v : Nat} {t : List (Option Value)} (hd : decode cc pc = .ok (.aload 7, 2)) (k : WW g x nL cs ss n w (pc + 2) (a0 :: a1 :: a2 :: a3 :: a4 :: a5 :: a6 :: some (.ref v) :: t) (.ref v :: st)) : WW g x nL cs ss n w pc (a0 :: a1 :: a2 :: a3 :: a4 :: a5 :: a6 :: some (.ref v) :: t) st := by
  obtain ⟨p, e, R, s, m, args, below, meth, c, Q⟩ := x
  obtain ⟨hx, hb, hml, hr, hlk, hown, hts, hK, hR, hbs, hQ⟩ := C
  intro H locs ls hH hS hl
  exact lv_aload hx hb hd (hl.2.2 (7, tr g (.ref v)) (mem_lvl.mpr ⟨_, rfl, rfl⟩)) (k H locs ls hH hS hl)
theorem ww_istore7 (C : Ck g x cc nL own rt rm n' Post) {a0 : Option Value} {a1 : Option Value} {a2 : Option Value} {a3 : Option Value} {a4 : Option Value} {a5 : Option Value} {a6 : Option Value} {a7 : Option Value} {v : Int32} {t : List (Option Value)} (hd : decode cc pc = .ok (.istore 7, 2)) (hn : 7 < nL) (hp : nl a6 = true) (k : WW g x nL cs ss n w (pc + 2) (a0 :: a1 :: a2 :: a3 :: a4 :: a5 :: a6 :: some (.int v) :: t) st) : WW g x nL cs ss n w pc (a0 :: a1 :: a2 :: a3 :: a4 :: a5 :: a6 :: a7 :: t) (.int v :: st) := by
  obtain ⟨p, e, R, s, m, args, below, meth, c, Q⟩ := x
  obtain ⟨hx, hb, hml, hr, hlk, hown, hts, hK, hR, hbs, hQ⟩ := C
  intro H locs ls hH hS hl
  exact lv_istore hx hb hd hl hn rfl (fun ls2 hl2 => k H locs ls2 hH hS (lvl_set1 (v := .int v) hl2 (fun u e _ => nl_p hp u e) rfl))
theorem ww_astore7 (C : Ck g x cc nL own rt rm n' Post) {a0 : Option Value} {a1 : Option Value} {a2 : Option Value} {a3 : Option Value} {a4 : Option Value} {a5 : Option Value} {a6 : Option Value} {a7 : Option Value} {v : Nat} {t : List (Option Value)} (hd : decode cc pc = .ok (.astore 7, 2)) (hn : 7 < nL) (hp : nl a6 = true) (k : WW g x nL cs ss n w (pc + 2) (a0 :: a1 :: a2 :: a3 :: a4 :: a5 :: a6 :: some (.ref v) :: t) st) : WW g x nL cs ss n w pc (a0 :: a1 :: a2 :: a3 :: a4 :: a5 :: a6 :: a7 :: t) (.ref v :: st) := by
  obtain ⟨p, e, R, s, m, args, below, meth, c, Q⟩ := x
  obtain ⟨hx, hb, hml, hr, hlk, hown, hts, hK, hR, hbs, hQ⟩ := C
  intro H locs ls hH hS hl
  exact lv_astore hx hb hd hl hn rfl (fun ls2 hl2 => k H locs ls2 hH hS (lvl_set1 (v := .ref v) hl2 (fun u e _ => nl_p hp u e) rfl))
theorem ww_lstore7 (C : Ck g x cc nL own rt rm n' Post) {a0 : Option Value} {a1 : Option Value} {a2 : Option Value} {a3 : Option Value} {a4 : Option Value} {a5 : Option Value} {a6 : Option Value} {a7 : Option Value} {a8 : Option Value} {v : Int64} {t : List (Option Value)} (hd : decode cc pc = .ok (.lstore 7, 2)) (hn : 8 < nL) (hp : nl a6 = true) (k : WW g x nL cs ss n w (pc + 2) (a0 :: a1 :: a2 :: a3 :: a4 :: a5 :: a6 :: some (.long v) :: none :: t) st) : WW g x nL cs ss n w pc (a0 :: a1 :: a2 :: a3 :: a4 :: a5 :: a6 :: a7 :: a8 :: t) (.long v :: st) := by
  obtain ⟨p, e, R, s, m, args, below, meth, c, Q⟩ := x
  obtain ⟨hx, hb, hml, hr, hlk, hown, hts, hK, hR, hbs, hQ⟩ := C
  intro H locs ls hH hS hl
  exact lv_lstore hx hb hd hl hn rfl (fun ls2 hl2 => k H locs ls2 hH hS (lvl_set2 (v := .long v) hl2 (fun u e _ => nl_p hp u e) rfl))
theorem ww_iinc7 (C : Ck g x cc nL own rt rm n' Post) {a0 : Option Value} {a1 : Option Value} {a2 : Option Value} {a3 : Option Value} {a4 : Option Value} {a5 : Option Value} {a6 : Option Value} {v u : Int32} {z : Int} {t : List (Option Value)} (hd : decode cc pc = .ok (.iinc 7 z, 3)) (hv : v + Int32.ofInt z = u) (hn : 7 < nL) (hp : nl a6 = true) (k : WW g x nL cs ss n w (pc + 3) (a0 :: a1 :: a2 :: a3 :: a4 :: a5 :: a6 :: some (.int u) :: t) st) : WW g x nL cs ss n w pc (a0 :: a1 :: a2 :: a3 :: a4 :: a5 :: a6 :: some (.int v) :: t) st := by
  obtain ⟨p, e, R, s, m, args, below, meth, c, Q⟩ := x
  obtain ⟨hx, hb, hml, hr, hlk, hown, hts, hK, hR, hbs, hQ⟩ := C
  intro H locs ls hH hS hl
  obtain ⟨j, hj⟩ := List.getElem?_of_mem (mem_lvl (g := g) (L := (a0 :: a1 :: a2 :: a3 :: a4 :: a5 :: a6 :: some (.int v) :: t)) (q := (7, .int v)) |>.mpr ⟨.int v, rfl, rfl⟩)
  exact lv_iinc hx hb hd hl hj hv hn rfl (fun ls2 hl2 => k H locs ls2 hH hS (lvl_set1 (v := .int u) hl2 (fun u e _ => nl_p hp u e) rfl))
theorem ww_iload8 (C : Ck g x cc nL own rt rm n' Post) {a0 : Option Value} {a1 : Option Value} {a2 : Option Value} {a3 : Option Value} {a4 : Option Value} {a5 : Option Value} {a6 : Option Value} {a7 : Option Value} {v : Int32} {t : List (Option Value)} (hd : decode cc pc = .ok (.iload 8, 2)) (k : WW g x nL cs ss n w (pc + 2) (a0 :: a1 :: a2 :: a3 :: a4 :: a5 :: a6 :: a7 :: some (.int v) :: t) (.int v :: st)) : WW g x nL cs ss n w pc (a0 :: a1 :: a2 :: a3 :: a4 :: a5 :: a6 :: a7 :: some (.int v) :: t) st := by
  obtain ⟨p, e, R, s, m, args, below, meth, c, Q⟩ := x
  obtain ⟨hx, hb, hml, hr, hlk, hown, hts, hK, hR, hbs, hQ⟩ := C
  intro H locs ls hH hS hl
  exact lv_iload hx hb hd (hl.2.2 (8, tr g (.int v)) (mem_lvl.mpr ⟨_, rfl, rfl⟩)) (k H locs ls hH hS hl)
theorem ww_lload8 (C : Ck g x cc nL own rt rm n' Post) {a0 : Option Value} {a1 : Option Value} {a2 : Option Value} {a3 : Option Value} {a4 : Option Value} {a5 : Option Value} {a6 : Option Value} {a7 : Option Value} {v : Int64} {t : List (Option Value)} (hd : decode cc pc = .ok (.lload 8, 2)) (k : WW g x nL cs ss n w (pc + 2) (a0 :: a1 :: a2 :: a3 :: a4 :: a5 :: a6 :: a7 :: some (.long v) :: t) (.long v :: st)) : WW g x nL cs ss n w pc (a0 :: a1 :: a2 :: a3 :: a4 :: a5 :: a6 :: a7 :: some (.long v) :: t) st := by
  obtain ⟨p, e, R, s, m, args, below, meth, c, Q⟩ := x
  obtain ⟨hx, hb, hml, hr, hlk, hown, hts, hK, hR, hbs, hQ⟩ := C
  intro H locs ls hH hS hl
  exact lv_lload hx hb hd (hl.2.2 (8, tr g (.long v)) (mem_lvl.mpr ⟨_, rfl, rfl⟩)) (k H locs ls hH hS hl)
theorem ww_aload8 (C : Ck g x cc nL own rt rm n' Post) {a0 : Option Value} {a1 : Option Value} {a2 : Option Value} {a3 : Option Value} {a4 : Option Value} {a5 : Option Value} {a6 : Option Value} {a7 : Option Value} {v : Nat} {t : List (Option Value)} (hd : decode cc pc = .ok (.aload 8, 2)) (k : WW g x nL cs ss n w (pc + 2) (a0 :: a1 :: a2 :: a3 :: a4 :: a5 :: a6 :: a7 :: some (.ref v) :: t) (.ref v :: st)) : WW g x nL cs ss n w pc (a0 :: a1 :: a2 :: a3 :: a4 :: a5 :: a6 :: a7 :: some (.ref v) :: t) st := by
  obtain ⟨p, e, R, s, m, args, below, meth, c, Q⟩ := x
  obtain ⟨hx, hb, hml, hr, hlk, hown, hts, hK, hR, hbs, hQ⟩ := C
  intro H locs ls hH hS hl
  exact lv_aload hx hb hd (hl.2.2 (8, tr g (.ref v)) (mem_lvl.mpr ⟨_, rfl, rfl⟩)) (k H locs ls hH hS hl)
theorem ww_istore8 (C : Ck g x cc nL own rt rm n' Post) {a0 : Option Value} {a1 : Option Value} {a2 : Option Value} {a3 : Option Value} {a4 : Option Value} {a5 : Option Value} {a6 : Option Value} {a7 : Option Value} {a8 : Option Value} {v : Int32} {t : List (Option Value)} (hd : decode cc pc = .ok (.istore 8, 2)) (hn : 8 < nL) (hp : nl a7 = true) (k : WW g x nL cs ss n w (pc + 2) (a0 :: a1 :: a2 :: a3 :: a4 :: a5 :: a6 :: a7 :: some (.int v) :: t) st) : WW g x nL cs ss n w pc (a0 :: a1 :: a2 :: a3 :: a4 :: a5 :: a6 :: a7 :: a8 :: t) (.int v :: st) := by
  obtain ⟨p, e, R, s, m, args, below, meth, c, Q⟩ := x
  obtain ⟨hx, hb, hml, hr, hlk, hown, hts, hK, hR, hbs, hQ⟩ := C
  intro H locs ls hH hS hl
  exact lv_istore hx hb hd hl hn rfl (fun ls2 hl2 => k H locs ls2 hH hS (lvl_set1 (v := .int v) hl2 (fun u e _ => nl_p hp u e) rfl))
theorem ww_astore8 (C : Ck g x cc nL own rt rm n' Post) {a0 : Option Value} {a1 : Option Value} {a2 : Option Value} {a3 : Option Value} {a4 : Option Value} {a5 : Option Value} {a6 : Option Value} {a7 : Option Value} {a8 : Option Value} {v : Nat} {t : List (Option Value)} (hd : decode cc pc = .ok (.astore 8, 2)) (hn : 8 < nL) (hp : nl a7 = true) (k : WW g x nL cs ss n w (pc + 2) (a0 :: a1 :: a2 :: a3 :: a4 :: a5 :: a6 :: a7 :: some (.ref v) :: t) st) : WW g x nL cs ss n w pc (a0 :: a1 :: a2 :: a3 :: a4 :: a5 :: a6 :: a7 :: a8 :: t) (.ref v :: st) := by
  obtain ⟨p, e, R, s, m, args, below, meth, c, Q⟩ := x
  obtain ⟨hx, hb, hml, hr, hlk, hown, hts, hK, hR, hbs, hQ⟩ := C
  intro H locs ls hH hS hl
  exact lv_astore hx hb hd hl hn rfl (fun ls2 hl2 => k H locs ls2 hH hS (lvl_set1 (v := .ref v) hl2 (fun u e _ => nl_p hp u e) rfl))
theorem ww_lstore8 (C : Ck g x cc nL own rt rm n' Post) {a0 : Option Value} {a1 : Option Value} {a2 : Option Value} {a3 : Option Value} {a4 : Option Value} {a5 : Option Value} {a6 : Option Value} {a7 : Option Value} {a8 : Option Value} {a9 : Option Value} {v : Int64} {t : List (Option Value)} (hd : decode cc pc = .ok (.lstore 8, 2)) (hn : 9 < nL) (hp : nl a7 = true) (k : WW g x nL cs ss n w (pc + 2) (a0 :: a1 :: a2 :: a3 :: a4 :: a5 :: a6 :: a7 :: some (.long v) :: none :: t) st) : WW g x nL cs ss n w pc (a0 :: a1 :: a2 :: a3 :: a4 :: a5 :: a6 :: a7 :: a8 :: a9 :: t) (.long v :: st) := by
  obtain ⟨p, e, R, s, m, args, below, meth, c, Q⟩ := x
  obtain ⟨hx, hb, hml, hr, hlk, hown, hts, hK, hR, hbs, hQ⟩ := C
  intro H locs ls hH hS hl
  exact lv_lstore hx hb hd hl hn rfl (fun ls2 hl2 => k H locs ls2 hH hS (lvl_set2 (v := .long v) hl2 (fun u e _ => nl_p hp u e) rfl))
theorem ww_iinc8 (C : Ck g x cc nL own rt rm n' Post) {a0 : Option Value} {a1 : Option Value} {a2 : Option Value} {a3 : Option Value} {a4 : Option Value} {a5 : Option Value} {a6 : Option Value} {a7 : Option Value} {v u : Int32} {z : Int} {t : List (Option Value)} (hd : decode cc pc = .ok (.iinc 8 z, 3)) (hv : v + Int32.ofInt z = u) (hn : 8 < nL) (hp : nl a7 = true) (k : WW g x nL cs ss n w (pc + 3) (a0 :: a1 :: a2 :: a3 :: a4 :: a5 :: a6 :: a7 :: some (.int u) :: t) st) : WW g x nL cs ss n w pc (a0 :: a1 :: a2 :: a3 :: a4 :: a5 :: a6 :: a7 :: some (.int v) :: t) st := by
  obtain ⟨p, e, R, s, m, args, below, meth, c, Q⟩ := x
  obtain ⟨hx, hb, hml, hr, hlk, hown, hts, hK, hR, hbs, hQ⟩ := C
  intro H locs ls hH hS hl
  obtain ⟨j, hj⟩ := List.getElem?_of_mem (mem_lvl (g := g) (L := (a0 :: a1 :: a2 :: a3 :: a4 :: a5 :: a6 :: a7 :: some (.int v) :: t)) (q := (8, .int v)) |>.mpr ⟨.int v, rfl, rfl⟩)
  exact lv_iinc hx hb hd hl hj hv hn rfl (fun ls2 hl2 => k H locs ls2 hH hS (lvl_set1 (v := .int u) hl2 (fun u e _ => nl_p hp u e) rfl))
theorem ww_iload9 (C : Ck g x cc nL own rt rm n' Post) {a0 : Option Value} {a1 : Option Value} {a2 : Option Value} {a3 : Option Value} {a4 : Option Value} {a5 : Option Value} {a6 : Option Value} {a7 : Option Value} {a8 : Option Value} {v : Int32} {t : List (Option Value)} (hd : decode cc pc = .ok (.iload 9, 2)) (k : WW g x nL cs ss n w (pc + 2) (a0 :: a1 :: a2 :: a3 :: a4 :: a5 :: a6 :: a7 :: a8 :: some (.int v) :: t) (.int v :: st)) : WW g x nL cs ss n w pc (a0 :: a1 :: a2 :: a3 :: a4 :: a5 :: a6 :: a7 :: a8 :: some (.int v) :: t) st := by
  obtain ⟨p, e, R, s, m, args, below, meth, c, Q⟩ := x
  obtain ⟨hx, hb, hml, hr, hlk, hown, hts, hK, hR, hbs, hQ⟩ := C
  intro H locs ls hH hS hl
  exact lv_iload hx hb hd (hl.2.2 (9, tr g (.int v)) (mem_lvl.mpr ⟨_, rfl, rfl⟩)) (k H locs ls hH hS hl)
theorem ww_lload9 (C : Ck g x cc nL own rt rm n' Post) {a0 : Option Value} {a1 : Option Value} {a2 : Option Value} {a3 : Option Value} {a4 : Option Value} {a5 : Option Value} {a6 : Option Value} {a7 : Option Value} {a8 : Option Value} {v : Int64} {t : List (Option Value)} (hd : decode cc pc = .ok (.lload 9, 2)) (k : WW g x nL cs ss n w (pc + 2) (a0 :: a1 :: a2 :: a3 :: a4 :: a5 :: a6 :: a7 :: a8 :: some (.long v) :: t) (.long v :: st)) : WW g x nL cs ss n w pc (a0 :: a1 :: a2 :: a3 :: a4 :: a5 :: a6 :: a7 :: a8 :: some (.long v) :: t) st := by
  obtain ⟨p, e, R, s, m, args, below, meth, c, Q⟩ := x
  obtain ⟨hx, hb, hml, hr, hlk, hown, hts, hK, hR, hbs, hQ⟩ := C
  intro H locs ls hH hS hl
  exact lv_lload hx hb hd (hl.2.2 (9, tr g (.long v)) (mem_lvl.mpr ⟨_, rfl, rfl⟩)) (k H locs ls hH hS hl)
theorem ww_aload9 (C : Ck g x cc nL own rt rm n' Post) {a0 : Option Value} {a1 : Option Value} {a2 : Option Value} {a3 : Option Value} {a4 : Option Value} {a5 : Option Value} {a6 : Option Value} {a7 : Option Value} {a8 : Option Value} {v : Nat} {t : List (Option Value)} (hd : decode cc pc = .ok (.aload 9, 2)) (k : WW g x nL cs ss n w (pc + 2) (a0 :: a1 :: a2 :: a3 :: a4 :: a5 :: a6 :: a7 :: a8 :: some (.ref v) :: t) (.ref v :: st)) : WW g x nL cs ss n w pc (a0 :: a1 :: a2 :: a3 :: a4 :: a5 :: a6 :: a7 :: a8 :: some (.ref v) :: t) st := by
  obtain ⟨p, e, R, s, m, args, below, meth, c, Q⟩ := x
  obtain ⟨hx, hb, hml, hr, hlk, hown, hts, hK, hR, hbs, hQ⟩ := C
  intro H locs ls hH hS hl
  exact lv_aload hx hb hd (hl.2.2 (9, tr g (.ref v)) (mem_lvl.mpr ⟨_, rfl, rfl⟩)) (k H locs ls hH hS hl)
theorem ww_istore9 (C : Ck g x cc nL own rt rm n' Post) {a0 : Option Value} {a1 : Option Value} {a2 : Option Value} {a3 : Option Value} {a4 : Option Value} {a5 : Option Value} {a6 : Option Value} {a7 : Option Value} {a8 : Option Value} {a9 : Option Value} {v : Int32} {t : List (Option Value)} (hd : decode cc pc = .ok (.istore 9, 2)) (hn : 9 < nL) (hp : nl a8 = true) (k : WW g x nL cs ss n w (pc + 2) (a0 :: a1 :: a2 :: a3 :: a4 :: a5 :: a6 :: a7 :: a8 :: some (.int v) :: t) st) : WW g x nL cs ss n w pc (a0 :: a1 :: a2 :: a3 :: a4 :: a5 :: a6 :: a7 :: a8 :: a9 :: t) (.int v :: st) := by
  obtain ⟨p, e, R, s, m, args, below, meth, c, Q⟩ := x
  obtain ⟨hx, hb, hml, hr, hlk, hown, hts, hK, hR, hbs, hQ⟩ := C
  intro H locs ls hH hS hl
  exact lv_istore hx hb hd hl hn rfl (fun ls2 hl2 => k H locs ls2 hH hS (lvl_set1 (v := .int v) hl2 (fun u e _ => nl_p hp u e) rfl))
theorem ww_astore9 (C : Ck g x cc nL own rt rm n' Post) {a0 : Option Value} {a1 : Option Value} {a2 : Option Value} {a3 : Option Value} {a4 : Option Value} {a5 : Option Value} {a6 : Option Value} {a7 : Option Value} {a8 : Option Value} {a9 : Option Value} {v : Nat} {t : List (Option Value)} (hd : decode cc pc = .ok (.astore 9, 2)) (hn : 9 < nL) (hp : nl a8 = true) (k : WW g x nL cs ss n w (pc + 2) (a0 :: a1 :: a2 :: a3 :: a4 :: a5 :: a6 :: a7 :: a8 :: some (.ref v) :: t) st) : WW g x nL cs ss n w pc (a0 :: a1 :: a2 :: a3 :: a4 :: a5 :: a6 :: a7 :: a8 :: a9 :: t) (.ref v :: st) := by
  obtain ⟨p, e, R, s, m, args, below, meth, c, Q⟩ := x
  obtain ⟨hx, hb, hml, hr, hlk, hown, hts, hK, hR, hbs, hQ⟩ := C
  intro H locs ls hH hS hl
  exact lv_astore hx hb hd hl hn rfl (fun ls2 hl2 => k H locs ls2 hH hS (lvl_set1 (v := .ref v) hl2 (fun u e _ => nl_p hp u e) rfl))
theorem ww_lstore9 (C : Ck g x cc nL own rt rm n' Post) {a0 : Option Value} {a1 : Option Value} {a2 : Option Value} {a3 : Option Value} {a4 : Option Value} {a5 : Option Value} {a6 : Option Value} {a7 : Option Value} {a8 : Option Value} {a9 : Option Value} {a10 : Option Value} {v : Int64} {t : List (Option Value)} (hd : decode cc pc = .ok (.lstore 9, 2)) (hn : 10 < nL) (hp : nl a8 = true) (k : WW g x nL cs ss n w (pc + 2) (a0 :: a1 :: a2 :: a3 :: a4 :: a5 :: a6 :: a7 :: a8 :: some (.long v) :: none :: t) st) : WW g x nL cs ss n w pc (a0 :: a1 :: a2 :: a3 :: a4 :: a5 :: a6 :: a7 :: a8 :: a9 :: a10 :: t) (.long v :: st) := by
  obtain ⟨p, e, R, s, m, args, below, meth, c, Q⟩ := x
  obtain ⟨hx, hb, hml, hr, hlk, hown, hts, hK, hR, hbs, hQ⟩ := C
  intro H locs ls hH hS hl
  exact lv_lstore hx hb hd hl hn rfl (fun ls2 hl2 => k H locs ls2 hH hS (lvl_set2 (v := .long v) hl2 (fun u e _ => nl_p hp u e) rfl))
theorem ww_iinc9 (C : Ck g x cc nL own rt rm n' Post) {a0 : Option Value} {a1 : Option Value} {a2 : Option Value} {a3 : Option Value} {a4 : Option Value} {a5 : Option Value} {a6 : Option Value} {a7 : Option Value} {a8 : Option Value} {v u : Int32} {z : Int} {t : List (Option Value)} (hd : decode cc pc = .ok (.iinc 9 z, 3)) (hv : v + Int32.ofInt z = u) (hn : 9 < nL) (hp : nl a8 = true) (k : WW g x nL cs ss n w (pc + 3) (a0 :: a1 :: a2 :: a3 :: a4 :: a5 :: a6 :: a7 :: a8 :: some (.int u) :: t) st) : WW g x nL cs ss n w pc (a0 :: a1 :: a2 :: a3 :: a4 :: a5 :: a6 :: a7 :: a8 :: some (.int v) :: t) st := by
  obtain ⟨p, e, R, s, m, args, below, meth, c, Q⟩ := x
  obtain ⟨hx, hb, hml, hr, hlk, hown, hts, hK, hR, hbs, hQ⟩ := C
  intro H locs ls hH hS hl
  obtain ⟨j, hj⟩ := List.getElem?_of_mem (mem_lvl (g := g) (L := (a0 :: a1 :: a2 :: a3 :: a4 :: a5 :: a6 :: a7 :: a8 :: some (.int v) :: t)) (q := (9, .int v)) |>.mpr ⟨.int v, rfl, rfl⟩)
  exact lv_iinc hx hb hd hl hj hv hn rfl (fun ls2 hl2 => k H locs ls2 hH hS (lvl_set1 (v := .int u) hl2 (fun u e _ => nl_p hp u e) rfl))
theorem ww_iload10 (C : Ck g x cc nL own rt rm n' Post) {a0 : Option Value} {a1 : Option Value} {a2 : Option Value} {a3 : Option Value} {a4 : Option Value} {a5 : Option Value} {a6 : Option Value} {a7 : Option Value} {a8 : Option Value} {a9 : Option Value} {v : Int32} {t : List (Option Value)} (hd : decode cc pc = .ok (.iload 10, 2)) (k : WW g x nL cs ss n w (pc + 2) (a0 :: a1 :: a2 :: a3 :: a4 :: a5 :: a6 :: a7 :: a8 :: a9 :: some (.int v) :: t) (.int v :: st)) : WW g x nL cs ss n w pc (a0 :: a1 :: a2 :: a3 :: a4 :: a5 :: a6 :: a7 :: a8 :: a9 :: some (.int v) :: t) st := by
  obtain ⟨p, e, R, s, m, args, below, meth, c, Q⟩ := x
  obtain ⟨hx, hb, hml, hr, hlk, hown, hts, hK, hR, hbs, hQ⟩ := C
  intro H locs ls hH hS hl
  exact lv_iload hx hb hd (hl.2.2 (10, tr g (.int v)) (mem_lvl.mpr ⟨_, rfl, rfl⟩)) (k H locs ls hH hS hl)
theorem ww_lload10 (C : Ck g x cc nL own rt rm n' Post) {a0 : Option Value} {a1 : Option Value} {a2 : Option Value} {a3 : Option Value} {a4 : Option Value} {a5 : Option Value} {a6 : Option Value} {a7 : Option Value} {a8 : Option Value} {a9 : Option Value} {v : Int64} {t : List (Option Value)} (hd : decode cc pc = .ok (.lload 10, 2)) (k : WW g x nL cs ss n w (pc + 2) (a0 :: a1 :: a2 :: a3 :: a4 :: a5 :: a6 :: a7 :: a8 :: a9 :: some (.long v) :: t) (.long v :: st)) : WW g x nL cs ss n w pc (a0 :: a1 :: a2 :: a3 :: a4 :: a5 :: a6 :: a7 :: a8 :: a9 :: some (.long v) :: t) st := by
  obtain ⟨p, e, R, s, m, args, below, meth, c, Q⟩ := x
  obtain ⟨hx, hb, hml, hr, hlk, hown, hts, hK, hR, hbs, hQ⟩ := C
  intro H locs ls hH hS hl
  exact lv_lload hx hb hd (hl.2.2 (10, tr g (.long v)) (mem_lvl.mpr ⟨_, rfl, rfl⟩)) (k H locs ls hH hS hl)
theorem ww_aload10 (C : Ck g x cc nL own rt rm n' Post) {a0 : Option Value} {a1 : Option Value} {a2 : Option Value} {a3 : Option Value} {a4 : Option Value} {a5 : Option Value} {a6 : Option Value} {a7 : Option Value} {a8 : Option Value} {a9 : Option Value} {v : Nat} {t : List (Option Value)} (hd : decode cc pc = .ok (.aload 10, 2)) (k : WW g x nL cs ss n w (pc + 2) (a0 :: a1 :: a2 :: a3 :: a4 :: a5 :: a6 :: a7 :: a8 :: a9 :: some (.ref v) :: t) (.ref v :: st)) : WW g x nL cs ss n w pc (a0 :: a1 :: a2 :: a3 :: a4 :: a5 :: a6 :: a7 :: a8 :: a9 :: some (.ref v) :: t) st := by
  obtain ⟨p, e, R, s, m, args, below, meth, c, Q⟩ := x
  obtain ⟨hx, hb, hml, hr, hlk, hown, hts, hK, hR, hbs, hQ⟩ := C
  intro H locs ls hH hS hl
  exact lv_aload hx hb hd (hl.2.2 (10, tr g (.ref v)) (mem_lvl.mpr ⟨_, rfl, rfl⟩)) (k H locs ls hH hS hl)
theorem ww_istore10 (C : Ck g x cc nL own rt rm n' Post) {a0 : Option Value} {a1 : Option Value} {a2 : Option Value} {a3 : Option Value} {a4 : Option Value} {a5 : Option Value} {a6 : Option Value} {a7 : Option Value} {a8 : Option Value} {a9 : Option Value} {a10 : Option Value} {v : Int32} {t : List (Option Value)} (hd : decode cc pc = .ok (.istore 10, 2)) (hn : 10 < nL) (hp : nl a9 = true) (k : WW g x nL cs ss n w (pc + 2) (a0 :: a1 :: a2 :: a3 :: a4 :: a5 :: a6 :: a7 :: a8 :: a9 :: some (.int v) :: t) st) : WW g x nL cs ss n w pc (a0 :: a1 :: a2 :: a3 :: a4 :: a5 :: a6 :: a7 :: a8 :: a9 :: a10 :: t) (.int v :: st) := by
  obtain ⟨p, e, R, s, m, args, below, meth, c, Q⟩ := x
  obtain ⟨hx, hb, hml, hr, hlk, hown, hts, hK, hR, hbs, hQ⟩ := C
  intro H locs ls hH hS hl
  exact lv_istore hx hb hd hl hn rfl (fun ls2 hl2 => k H locs ls2 hH hS (lvl_set1 (v := .int v) hl2 (fun u e _ => nl_p hp u e) rfl))
theorem ww_astore10 (C : Ck g x cc nL own rt rm n' Post) {a0 : Option Value} {a1 : Option Value} {a2 : Option Value} {a3 : Option Value} {a4 : Option Value} {a5 : Option Value} {a6 : Option Value} {a7 : Option Value} {a8 : Option Value} {a9 : Option Value} {a10 : Option Value} {v : Nat} {t : List (Option Value)} (hd : decode cc pc = .ok (.astore 10, 2)) (hn : 10 < nL) (hp : nl a9 = true) (k : WW g x nL cs ss n w (pc + 2) (a0 :: a1 :: a2 :: a3 :: a4 :: a5 :: a6 :: a7 :: a8 :: a9 :: some (.ref v) :: t) st) : WW g x nL cs ss n w pc (a0 :: a1 :: a2 :: a3 :: a4 :: a5 :: a6 :: a7 :: a8 :: a9 :: a10 :: t) (.ref v :: st) := by
  obtain ⟨p, e, R, s, m, args, below, meth, c, Q⟩ := x
  obtain ⟨hx, hb, hml, hr, hlk, hown, hts, hK, hR, hbs, hQ⟩ := C
  intro H locs ls hH hS hl
  exact lv_astore hx hb hd hl hn rfl (fun ls2 hl2 => k H locs ls2 hH hS (lvl_set1 (v := .ref v) hl2 (fun u e _ => nl_p hp u e) rfl))
theorem ww_lstore10 (C : Ck g x cc nL own rt rm n' Post) {a0 : Option Value} {a1 : Option Value} {a2 : Option Value} {a3 : Option Value} {a4 : Option Value} {a5 : Option Value} {a6 : Option Value} {a7 : Option Value} {a8 : Option Value} {a9 : Option Value} {a10 : Option Value} {a11 : Option Value} {v : Int64} {t : List (Option Value)} (hd : decode cc pc = .ok (.lstore 10, 2)) (hn : 11 < nL) (hp : nl a9 = true) (k : WW g x nL cs ss n w (pc + 2) (a0 :: a1 :: a2 :: a3 :: a4 :: a5 :: a6 :: a7 :: a8 :: a9 :: some (.long v) :: none :: t) st) : WW g x nL cs ss n w pc (a0 :: a1 :: a2 :: a3 :: a4 :: a5 :: a6 :: a7 :: a8 :: a9 :: a10 :: a11 :: t) (.long v :: st) := by
  obtain ⟨p, e, R, s, m, args, below, meth, c, Q⟩ := x
  obtain ⟨hx, hb, hml, hr, hlk, hown, hts, hK, hR, hbs, hQ⟩ := C
  intro H locs ls hH hS hl
  exact lv_lstore hx hb hd hl hn rfl (fun ls2 hl2 => k H locs ls2 hH hS (lvl_set2 (v := .long v) hl2 (fun u e _ => nl_p hp u e) rfl))
theorem ww_iinc10 (C : Ck g x cc nL own rt rm n' Post) {a0 : Option Value} {a1 : Option Value} {a2 : Option Value} {a3 : Option Value} {a4 : Option Value} {a5 : Option Value} {a6 : Option Value} {a7 : Option Value} {a8 : Option Value} {a9 : Option Value} {v u : Int32} {z : Int} {t : List (Option Value)} (hd : decode cc pc = .ok (.iinc 10 z, 3)) (hv : v + Int32.ofInt z = u) (hn : 10 < nL) (hp : nl a9 = true) (k : WW g x nL cs ss n w (pc + 3) (a0 :: a1 :: a2 :: a3 :: a4 :: a5 :: a6 :: a7 :: a8 :: a9 :: some (.int u) :: t) st) : WW g x nL cs ss n w pc (a0 :: a1 :: a2 :: a3 :: a4 :: a5 :: a6 :: a7 :: a8 :: a9 :: some (.int v) :: t) st := by
  obtain ⟨p, e, R, s, m, args, below, meth, c, Q⟩ := x
  obtain ⟨hx, hb, hml, hr, hlk, hown, hts, hK, hR, hbs, hQ⟩ := C
  intro H locs ls hH hS hl
  obtain ⟨j, hj⟩ := List.getElem?_of_mem (mem_lvl (g := g) (L := (a0 :: a1 :: a2 :: a3 :: a4 :: a5 :: a6 :: a7 :: a8 :: a9 :: some (.int v) :: t)) (q := (10, .int v)) |>.mpr ⟨.int v, rfl, rfl⟩)
  exact lv_iinc hx hb hd hl hj hv hn rfl (fun ls2 hl2 => k H locs ls2 hH hS (lvl_set1 (v := .int u) hl2 (fun u e _ => nl_p hp u e) rfl))
theorem ww_iload11 (C : Ck g x cc nL own rt rm n' Post) {a0 : Option Value} {a1 : Option Value} {a2 : Option Value} {a3 : Option Value} {a4 : Option Value} {a5 : Option Value} {a6 : Option Value} {a7 : Option Value} {a8 : Option Value} {a9 : Option Value} {a10 : Option Value} {v : Int32} {t : List (Option Value)} (hd : decode cc pc = .ok (.iload 11, 2)) (k : WW g x nL cs ss n w (pc + 2) (a0 :: a1 :: a2 :: a3 :: a4 :: a5 :: a6 :: a7 :: a8 :: a9 :: a10 :: some (.int v) :: t) (.int v :: st)) : WW g x nL cs ss n w pc (a0 :: a1 :: a2 :: a3 :: a4 :: a5 :: a6 :: a7 :: a8 :: a9 :: a10 :: some (.int v) :: t) st := by
  obtain ⟨p, e, R, s, m, args, below, meth, c, Q⟩ := x
  obtain ⟨hx, hb, hml, hr, hlk, hown, hts, hK, hR, hbs, hQ⟩ := C
  intro H locs ls hH hS hl
  exact lv_iload hx hb hd (hl.2.2 (11, tr g (.int v)) (mem_lvl.mpr ⟨_, rfl, rfl⟩)) (k H locs ls hH hS hl)
theorem ww_lload11 (C : Ck g x cc nL own rt rm n' Post) {a0 : Option Value} {a1 : Option Value} {a2 : Option Value} {a3 : Option Value} {a4 : Option Value} {a5 : Option Value} {a6 : Option Value} {a7 : Option Value} {a8 : Option Value} {a9 : Option Value} {a10 : Option Value} {v : Int64} {t : List (Option Value)} (hd : decode cc pc = .ok (.lload 11, 2)) (k : WW g x nL cs ss n w (pc + 2) (a0 :: a1 :: a2 :: a3 :: a4 :: a5 :: a6 :: a7 :: a8 :: a9 :: a10 :: some (.long v) :: t) (.long v :: st)) : WW g x nL cs ss n w pc (a0 :: a1 :: a2 :: a3 :: a4 :: a5 :: a6 :: a7 :: a8 :: a9 :: a10 :: some (.long v) :: t) st := by
  obtain ⟨p, e, R, s, m, args, below, meth, c, Q⟩ := x
  obtain ⟨hx, hb, hml, hr, hlk, hown, hts, hK, hR, hbs, hQ⟩ := C
  intro H locs ls hH hS hl
  exact lv_lload hx hb hd (hl.2.2 (11, tr g (.long v)) (mem_lvl.mpr ⟨_, rfl, rfl⟩)) (k H locs ls hH hS hl)
theorem ww_aload11 (C : Ck g x cc nL own rt rm n' Post) {a0 : Option Value} {a1 : Option Value} {a2 : Option Value} {a3 : Option Value} {a4 : Option Value} {a5 : Option Value} {a6 : Option Value} {a7 : Option Value} {a8 : Option Value} {a9 : Option Value} {a10 : Option Value} {v : Nat} {t : List (Option Value)} (hd : decode cc pc = .ok (.aload 11, 2)) (k : WW g x nL cs ss n w (pc + 2) (a0 :: a1 :: a2 :: a3 :: a4 :: a5 :: a6 :: a7 :: a8 :: a9 :: a10 :: some (.ref v) :: t) (.ref v :: st)) : WW g x nL cs ss n w pc (a0 :: a1 :: a2 :: a3 :: a4 :: a5 :: a6 :: a7 :: a8 :: a9 :: a10 :: some (.ref v) :: t) st := by
  obtain ⟨p, e, R, s, m, args, below, meth, c, Q⟩ := x
  obtain ⟨hx, hb, hml, hr, hlk, hown, hts, hK, hR, hbs, hQ⟩ := C
  intro H locs ls hH hS hl
  exact lv_aload hx hb hd (hl.2.2 (11, tr g (.ref v)) (mem_lvl.mpr ⟨_, rfl, rfl⟩)) (k H locs ls hH hS hl)
theorem ww_istore11 (C : Ck g x cc nL own rt rm n' Post) {a0 : Option Value} {a1 : Option Value} {a2 : Option Value} {a3 : Option Value} {a4 : Option Value} {a5 : Option Value} {a6 : Option Value} {a7 : Option Value} {a8 : Option Value} {a9 : Option Value} {a10 : Option Value} {a11 : Option Value} {v : Int32} {t : List (Option Value)} (hd : decode cc pc = .ok (.istore 11, 2)) (hn : 11 < nL) (hp : nl a10 = true) (k : WW g x nL cs ss n w (pc + 2) (a0 :: a1 :: a2 :: a3 :: a4 :: a5 :: a6 :: a7 :: a8 :: a9 :: a10 :: some (.int v) :: t) st) : WW g x nL cs ss n w pc (a0 :: a1 :: a2 :: a3 :: a4 :: a5 :: a6 :: a7 :: a8 :: a9 :: a10 :: a11 :: t) (.int v :: st) := by
  obtain ⟨p, e, R, s, m, args, below, meth, c, Q⟩ := x
  obtain ⟨hx, hb, hml, hr, hlk, hown, hts, hK, hR, hbs, hQ⟩ := C
  intro H locs ls hH hS hl
  exact lv_istore hx hb hd hl hn rfl (fun ls2 hl2 => k H locs ls2 hH hS (lvl_set1 (v := .int v) hl2 (fun u e _ => nl_p hp u e) rfl))
theorem ww_astore11 (C : Ck g x cc nL own rt rm n' Post) {a0 : Option Value} {a1 : Option Value} {a2 : Option Value} {a3 : Option Value} {a4 : Option Value} {a5 : Option Value} {a6 : Option Value} {a7 : Option Value} {a8 : Option Value} {a9 : Option Value} {a10 : Option Value} {a11 : Option Value} {v : Nat} {t : List (Option Value)} (hd : decode cc pc = .ok (.astore 11, 2)) (hn : 11 < nL) (hp : nl a10 = true) (k : WW g x nL cs ss n w (pc + 2) (a0 :: a1 :: a2 :: a3 :: a4 :: a5 :: a6 :: a7 :: a8 :: a9 :: a10 :: some (.ref v) :: t) st) : WW g x nL cs ss n w pc (a0 :: a1 :: a2 :: a3 :: a4 :: a5 :: a6 :: a7 :: a8 :: a9 :: a10 :: a11 :: t) (.ref v :: st) := by
  obtain ⟨p, e, R, s, m, args, below, meth, c, Q⟩ := x
  obtain ⟨hx, hb, hml, hr, hlk, hown, hts, hK, hR, hbs, hQ⟩ := C
  intro H locs ls hH hS hl
  exact lv_astore hx hb hd hl hn rfl (fun ls2 hl2 => k H locs ls2 hH hS (lvl_set1 (v := .ref v) hl2 (fun u e _ => nl_p hp u e) rfl))
theorem ww_lstore11 (C : Ck g x cc nL own rt rm n' Post) {a0 : Option Value} {a1 : Option Value} {a2 : Option Value} {a3 : Option Value} {a4 : Option Value} {a5 : Option Value} {a6 : Option Value} {a7 : Option Value} {a8 : Option Value} {a9 : Option Value} {a10 : Option Value} {a11 : Option Value} {a12 : Option Value} {v : Int64} {t : List (Option Value)} (hd : decode cc pc = .ok (.lstore 11, 2)) (hn : 12 < nL) (hp : nl a10 = true) (k : WW g x nL cs ss n w (pc + 2) (a0 :: a1 :: a2 :: a3 :: a4 :: a5 :: a6 :: a7 :: a8 :: a9 :: a10 :: some (.long v) :: none :: t) st) : WW g x nL cs ss n w pc (a0 :: a1 :: a2 :: a3 :: a4 :: a5 :: a6 :: a7 :: a8 :: a9 :: a10 :: a11 :: a12 :: t) (.long v :: st) := by
  obtain ⟨p, e, R, s, m, args, below, meth, c, Q⟩ := x
  obtain ⟨hx, hb, hml, hr, hlk, hown, hts, hK, hR, hbs, hQ⟩ := C
  intro H locs ls hH hS hl
  exact lv_lstore hx hb hd hl hn rfl (fun ls2 hl2 => k H locs ls2 hH hS (lvl_set2 (v := .long v) hl2 (fun u e _ => nl_p hp u e) rfl))
theorem ww_iinc11 (C : Ck g x cc nL own rt rm n' Post) {a0 : Option Value} {a1 : Option Value} {a2 : Option Value} {a3 : Option Value} {a4 : Option Value} {a5 : Option Value} {a6 : Option Value} {a7 : Option Value} {a8 : Option Value} {a9 : Option Value} {a10 : Option Value} {v u : Int32} {z : Int} {t : List (Option Value)} (hd : decode cc pc = .ok (.iinc 11 z, 3)) (hv : v + Int32.ofInt z = u) (hn : 11 < nL) (hp : nl a10 = true) (k : WW g x nL cs ss n w (pc + 3) (a0 :: a1 :: a2 :: a3 :: a4 :: a5 :: a6 :: a7 :: a8 :: a9 :: a10 :: some (.int u) :: t) st) : WW g x nL cs ss n w pc (a0 :: a1 :: a2 :: a3 :: a4 :: a5 :: a6 :: a7 :: a8 :: a9 :: a10 :: some (.int v) :: t) st := by
  obtain ⟨p, e, R, s, m, args, below, meth, c, Q⟩ := x
  obtain ⟨hx, hb, hml, hr, hlk, hown, hts, hK, hR, hbs, hQ⟩ := C
  intro H locs ls hH hS hl
  obtain ⟨j, hj⟩ := List.getElem?_of_mem (mem_lvl (g := g) (L := (a0 :: a1 :: a2 :: a3 :: a4 :: a5 :: a6 :: a7 :: a8 :: a9 :: a10 :: some (.int v) :: t)) (q := (11, .int v)) |>.mpr ⟨.int v, rfl, rfl⟩)
  exact lv_iinc hx hb hd hl hj hv hn rfl (fun ls2 hl2 => k H locs ls2 hH hS (lvl_set1 (v := .int u) hl2 (fun u e _ => nl_p hp u e) rfl))
/-- the end of a method: the world holds, Post holds -/
theorem qc_end {g : Gx} {n n' : Nat} {Post : Option Value → Wd → Prop} {args : Array Value} {s t : State} {H : Heap} {locs : List Loc} {w : Wd} {r : Option Value} (hn : n = n') (hH : HW g n w H) (hS : va_S (gA g) s.heap H locs) (hp : Post r w) (ht : t.heap = H) : qc_ g n' Post args s (.returned (r.map (tr g))) t := by
  subst hn
  exact ⟨⟨r, w, rfl, hp, by rw [ht]; exact hH⟩, hS.F ht⟩
theorem ww_iret (C : Ck g x cc nL own rt rm n' Post) {v : Int32} (hd : decode cc pc = .ok (.ireturn, 1)) (hr2 : rt = some .int) (hn : n = n') (hc : cs ≤ rm.cells) (hs : ss ≤ rm.slots) (hp : Post (some (.int v)) w) : WW g x nL cs ss n w pc L [.int v] := by
  obtain ⟨p, e, R, s, m, args, below, meth, c, Q⟩ := x
  obtain ⟨hx, hb, hml, hr, hlk, hown, hts, hK, hR, hbs, hQ⟩ := C
  intro H locs ls hH hS hl
  subst hR; subst hQ
  subst hr2
  exact W.widen hc hs (W.iret hx hb hr (fun t ht _ => qc_end hn hH hS hp ht) hS.2.2 hd hlk)
theorem ww_zret (C : Ck g x cc nL own rt rm n' Post) {v : Int32} (hd : decode cc pc = .ok (.ireturn, 1)) (hr2 : rt = some .boolean) (hz : narrow .boolean (.int v) = .int v) (hn : n = n') (hc : cs ≤ rm.cells) (hs : ss ≤ rm.slots) (hp : Post (some (.int v)) w) : WW g x nL cs ss n w pc L [.int v] := by
  obtain ⟨p, e, R, s, m, args, below, meth, c, Q⟩ := x
  obtain ⟨hx, hb, hml, hr, hlk, hown, hts, hK, hR, hbs, hQ⟩ := C
  intro H locs ls hH hS hl
  subst hR; subst hQ
  subst hr2
  exact W.widen hc hs (W.zret hx hb hr hz (fun t ht _ => qc_end hn hH hS hp ht) hS.2.2 hd hlk)
theorem ww_lret (C : Ck g x cc nL own rt rm n' Post) {v : Int64} (hd : decode cc pc = .ok (.lreturn, 1)) (hr2 : rt = some .long) (hn : n = n') (hc : cs ≤ rm.cells) (hs : ss ≤ rm.slots) (hp : Post (some (.long v)) w) : WW g x nL cs ss n w pc L [.long v] := by
  obtain ⟨p, e, R, s, m, args, below, meth, c, Q⟩ := x
  obtain ⟨hx, hb, hml, hr, hlk, hown, hts, hK, hR, hbs, hQ⟩ := C
  intro H locs ls hH hS hl
  subst hR; subst hQ
  subst hr2
  exact W.widen hc hs (W.lret hx hb hr (fun t ht _ => qc_end hn hH hS hp ht) hS.2.2 hd hlk)
theorem ww_vret (C : Ck g x cc nL own rt rm n' Post) (hd : decode cc pc = .ok (.return_, 1)) (hr2 : rt = none) (hn : n = n') (hc : cs ≤ rm.cells) (hs : ss ≤ rm.slots) (hp : Post none w) : WW g x nL cs ss n w pc L [] := by
  obtain ⟨p, e, R, s, m, args, below, meth, c, Q⟩ := x
  obtain ⟨hx, hb, hml, hr, hlk, hown, hts, hK, hR, hbs, hQ⟩ := C
  intro H locs ls hH hS hl
  subst hR; subst hQ
  subst hr2
  exact W.widen hc hs (W.vret hx hb hr (fun t ht _ => qc_end (r := none) hn hH hS hp ht) hS.2.2 hd hlk)
theorem ww_aret (C : Ck g x cc nL own rt rm n' Post) {v : Nat} {C0 : String} (hd : decode cc pc = .ok (.areturn, 1)) (hr2 : rt = some (.object C0)) (hn : n = n') (hc : cs ≤ rm.cells) (hs : ss ≤ rm.slots) (hp : Post (some (.ref v)) w) : WW g x nL cs ss n w pc L [.ref v] := by
  obtain ⟨p, e, R, s, m, args, below, meth, c, Q⟩ := x
  obtain ⟨hx, hb, hml, hr, hlk, hown, hts, hK, hR, hbs, hQ⟩ := C
  intro H locs ls hH hS hl
  subst hR; subst hQ
  subst hr2
  exact W.widen hc hs (W.aret hx hb hr (Or.inl ⟨_, rfl⟩) (Or.inr ⟨_, rfl⟩) (fun t ht _ => qc_end (r := some (.ref v)) hn hH hS hp ht) hS.2.2 hd hlk)
end ROWS
