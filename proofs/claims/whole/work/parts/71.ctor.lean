abbrev rk_X0 : Room := { frames := 1, cells := 1, slots := 12, locals := 20 }
abbrev rk_X4 : Room := { frames := 1, cells := 3, slots := 96, locals := 20 }
abbrev rk_X5 : Room := { frames := 1, cells := 2, slots := 406, locals := 20 }
abbrev rk_X1 : Room := { frames := 1, cells := 9, slots := 816, locals := 20 }
abbrev rk_X2 : Room := { frames := 2, cells := 9, slots := 134, locals := 40 }
abbrev rk_X3 : Room := { frames := 2, cells := 6, slots := 114, locals := 40 }
abbrev rk_X6 : Room := { frames := 3, cells := 58, slots := 1973, locals := 60 }
abbrev rk_X7 : Room := { frames := 1, cells := 23, slots := 5045, locals := 22 }
theorem ww_mkI {g : Gx} {x : Cx} {cc : ByteArray} {nL : Nat} {own : String} {rt : Option FieldType} {rm : Room} {n' : Nat} {Post : Option Value → Wd → Prop} {cs ss n : Nat} {w : Wd} {pc : Nat} {L : List (Option Value)} (C : Ck g x cc nL own rt rm n' Post) {y : MethodName} {cy : ByteArray} {my : Nat} {rmy : Room} {n2 idx : Nat} {Q0 : Wd → Prop} {rest : List Value} {k ci : Nat} {fs : List Value} (hk : w k = ob ci fs) (hM : CT g y cy my none rmy n n2 w [.ref k] (R0q Q0)) (hok : okI own idx y cy my 0) (hroom : rmy.frames + 1 ≤ rm.frames ∧ 8 + (my + 11) + rmy.locals ≤ rm.locals) (hcs : cs + rmy.cells ≤ rm.cells ∧ ss + rmy.slots ≤ rm.slots) (hW : (rest.map fun v => v.category).sum ≤ 8) (hd : decode cc pc = .ok (.invokespecial idx, 3)) (kk : ∀ w1, Q0 w1 → WW g x nL (cs + rmy.cells) (ss + rmy.slots) n2 w1 (pc + 3) L rest) : WW g x nL cs ss n w pc L (.ref k :: rest) :=
  ww_callI C (as := []) (rest := rest) hk hM hok hroom hcs rfl rfl hW hd (fun r w' h => by obtain ⟨h1, h2⟩ := h; subst h1; exact kk _ h2)
theorem i_X4 (g : Gx) (w : Wd) {k : Nat} (hk : w (k) = ob 4 [.null, .null, .null, .int (nI 0)]) (hk9 : k ≤ 89) : CT g yX4_init cX4_init 1 none rk_X4 (k + 1) (k + 4) w [.ref (k)] (R0q (fun w1 => NR w1 k (fun _ => 0) (fun _ => 0) (fun _ => 0) 0 ∧ fr w w1 (k) (k + 4))) := by
  have hf : fr w w (k) (k + 4) := fr.rf
  refine CT.start [some (.ref (k))] (by decide +kernel) rfl (Nat.le_of_ble_eq_true rfl) (fun x C hnm => ?_)
  refine ww_aload0 C dX4_init_0 ?_
  refine ww_oinit C ml_X4_3 (Nat.le_of_ble_eq_true rfl) (Nat.le_of_ble_eq_true rfl) (Nat.le_of_ble_eq_true rfl) dX4_init_1 ?_
  refine ww_aload0 C dX4_init_4 ?_
  refine ww_bipush C (v := nI 8) dX4_init_5 (by decide) ?_
  refine ww_newI C (m0 := 8) (by decide) (by omega) (Nat.le_of_ble_eq_true rfl) (Nat.le_of_ble_eq_true rfl) dX4_init_7 (fun w1 hw1 => ?_)
  have gw1 : fr w w1 (k + 1) (k + 2) := fr.up hw1 (by omega) (by omega)
  have hk : w1 (k) = ob 4 [.null, .null, .null, .int (nI 0)] := (gw1 _ (by omega)).trans hk
  have hf : fr w w1 (k) (k + 4) := hf.tr (gw1.wide (by omega) (by omega))
  have f1 : w1 (k + 1) = ai 8 (fun _ => 0) := by rw [hw1]; exact va_upd_self _ _ _
  refine ww_putA C hnm fl_X4_9 rfl hk (fs2 := [.ref (k + 1), .null, .null, .int (nI 0)]) (Nat.le_of_ble_eq_true rfl) rfl dX4_init_9 (fun w2 hw2 => ?_)
  have gw2 : fr w1 w2 (k) (k + 1) := fr.up hw2 (by omega) (by omega)
  have f1 : w2 (k + 1) = ai 8 (fun _ => 0) := (gw2 _ (by omega)).trans f1
  have hf : fr w w2 (k) (k + 4) := hf.tr (gw2.wide (by omega) (by omega))
  have hk : w2 (k) = ob 4 [.ref (k + 1), .null, .null, .int (nI 0)] := by rw [hw2]; exact va_upd_self _ _ _
  refine ww_aload0 C dX4_init_12 ?_
  refine ww_bipush C (v := nI 8) dX4_init_13 (by decide) ?_
  refine ww_newI C (m0 := 8) (by decide) (by omega) (Nat.le_of_ble_eq_true rfl) (Nat.le_of_ble_eq_true rfl) dX4_init_15 (fun w3 hw3 => ?_)
  have gw3 : fr w2 w3 (k + 2) (k + 3) := fr.up hw3 (by omega) (by omega)
  have f1 : w3 (k + 1) = ai 8 (fun _ => 0) := (gw3 _ (by omega)).trans f1
  have hk : w3 (k) = ob 4 [.ref (k + 1), .null, .null, .int (nI 0)] := (gw3 _ (by omega)).trans hk
  have hf : fr w w3 (k) (k + 4) := hf.tr (gw3.wide (by omega) (by omega))
  have f2 : w3 (k + 2) = ai 8 (fun _ => 0) := by rw [hw3]; exact va_upd_self _ _ _
  refine ww_putA C hnm fl_X4_15 rfl hk (fs2 := [.ref (k + 1), .ref (k + 2), .null, .int (nI 0)]) (Nat.le_of_ble_eq_true rfl) rfl dX4_init_17 (fun w4 hw4 => ?_)
  have gw4 : fr w3 w4 (k) (k + 1) := fr.up hw4 (by omega) (by omega)
  have f1 : w4 (k + 1) = ai 8 (fun _ => 0) := (gw4 _ (by omega)).trans f1
  have f2 : w4 (k + 2) = ai 8 (fun _ => 0) := (gw4 _ (by omega)).trans f2
  have hf : fr w w4 (k) (k + 4) := hf.tr (gw4.wide (by omega) (by omega))
  have hk : w4 (k) = ob 4 [.ref (k + 1), .ref (k + 2), .null, .int (nI 0)] := by rw [hw4]; exact va_upd_self _ _ _
  refine ww_aload0 C dX4_init_20 ?_
  refine ww_bipush C (v := nI 80) dX4_init_21 (by decide) ?_
  refine ww_newI C (m0 := 80) (by decide) (by omega) (Nat.le_of_ble_eq_true rfl) (Nat.le_of_ble_eq_true rfl) dX4_init_23 (fun w5 hw5 => ?_)
  have gw5 : fr w4 w5 (k + 3) (k + 4) := fr.up hw5 (by omega) (by omega)
  have f1 : w5 (k + 1) = ai 8 (fun _ => 0) := (gw5 _ (by omega)).trans f1
  have f2 : w5 (k + 2) = ai 8 (fun _ => 0) := (gw5 _ (by omega)).trans f2
  have hk : w5 (k) = ob 4 [.ref (k + 1), .ref (k + 2), .null, .int (nI 0)] := (gw5 _ (by omega)).trans hk
  have hf : fr w w5 (k) (k + 4) := hf.tr (gw5.wide (by omega) (by omega))
  have f3 : w5 (k + 3) = ai 80 (fun _ => 0) := by rw [hw5]; exact va_upd_self _ _ _
  refine ww_putA C hnm fl_X4_18 rfl hk (fs2 := [.ref (k + 1), .ref (k + 2), .ref (k + 3), .int (nI 0)]) (Nat.le_of_ble_eq_true rfl) rfl dX4_init_25 (fun w6 hw6 => ?_)
  have gw6 : fr w5 w6 (k) (k + 1) := fr.up hw6 (by omega) (by omega)
  have f1 : w6 (k + 1) = ai 8 (fun _ => 0) := (gw6 _ (by omega)).trans f1
  have f2 : w6 (k + 2) = ai 8 (fun _ => 0) := (gw6 _ (by omega)).trans f2
  have f3 : w6 (k + 3) = ai 80 (fun _ => 0) := (gw6 _ (by omega)).trans f3
  have hf : fr w w6 (k) (k + 4) := hf.tr (gw6.wide (by omega) (by omega))
  have hk : w6 (k) = ob 4 [.ref (k + 1), .ref (k + 2), .ref (k + 3), .int (nI 0)] := by rw [hw6]; exact va_upd_self _ _ _
  refine ww_aload0 C dX4_init_28 ?_
  refine ww_iconst C (v := nI 0) dX4_init_29 (by decide) ?_
  refine ww_putI C fl_X4_21 hk (fs2 := [.ref (k + 1), .ref (k + 2), .ref (k + 3), .int (nI 0)]) (Nat.le_of_ble_eq_true rfl) rfl dX4_init_30 (fun w7 hw7 => ?_)
  have gw7 : fr w6 w7 (k) (k + 1) := fr.up hw7 (by omega) (by omega)
  have f1 : w7 (k + 1) = ai 8 (fun _ => 0) := (gw7 _ (by omega)).trans f1
  have f2 : w7 (k + 2) = ai 8 (fun _ => 0) := (gw7 _ (by omega)).trans f2
  have f3 : w7 (k + 3) = ai 80 (fun _ => 0) := (gw7 _ (by omega)).trans f3
  have hf : fr w w7 (k) (k + 4) := hf.tr (gw7.wide (by omega) (by omega))
  have hk : w7 (k) = ob 4 [.ref (k + 1), .ref (k + 2), .ref (k + 3), .int (nI 0)] := by rw [hw7]; exact va_upd_self _ _ _
  exact ww_rvq C dX4_init_33 rfl ⟨Nat.le_of_ble_eq_true rfl, Nat.le_of_ble_eq_true rfl⟩ ⟨⟨hk, f1, f2, f3, by decide, fun _ => Nat.zero_le _, fun _ => Nat.zero_le _, fun _ => Nat.zero_le _⟩, hf⟩
theorem i_X0 (g : Gx) (w : Wd) {k : Nat} (hk : w (k) = ob 0 [.null, .int (nI 0)]) (hk9 : k ≤ 89) : CT g yX0_init cX0_init 1 none rk_X0 (k + 1) (k + 2) w [.ref (k)] (R0q (fun w1 => ER w1 k (fun _ => 0) 0 ∧ fr w w1 (k) (k + 2))) := by
  have hf : fr w w (k) (k + 2) := fr.rf
  refine CT.start [some (.ref (k))] (by decide +kernel) rfl (Nat.le_of_ble_eq_true rfl) (fun x C hnm => ?_)
  refine ww_aload0 C dX0_init_0 ?_
  refine ww_oinit C ml_X0_3 (Nat.le_of_ble_eq_true rfl) (Nat.le_of_ble_eq_true rfl) (Nat.le_of_ble_eq_true rfl) dX0_init_1 ?_
  refine ww_aload0 C dX0_init_4 ?_
  refine ww_bipush C (v := nI 12) dX0_init_5 (by decide) ?_
  refine ww_newI C (m0 := 12) (by decide) (by omega) (Nat.le_of_ble_eq_true rfl) (Nat.le_of_ble_eq_true rfl) dX0_init_7 (fun w1 hw1 => ?_)
  have gw1 : fr w w1 (k + 1) (k + 2) := fr.up hw1 (by omega) (by omega)
  have hk : w1 (k) = ob 0 [.null, .int (nI 0)] := (gw1 _ (by omega)).trans hk
  have hf : fr w w1 (k) (k + 2) := hf.tr (gw1.wide (by omega) (by omega))
  have f1 : w1 (k + 1) = ai 12 (fun _ => 0) := by rw [hw1]; exact va_upd_self _ _ _
  refine ww_putA C hnm fl_X0_9 rfl hk (fs2 := [.ref (k + 1), .int (nI 0)]) (Nat.le_of_ble_eq_true rfl) rfl dX0_init_9 (fun w2 hw2 => ?_)
  have gw2 : fr w1 w2 (k) (k + 1) := fr.up hw2 (by omega) (by omega)
  have f1 : w2 (k + 1) = ai 12 (fun _ => 0) := (gw2 _ (by omega)).trans f1
  have hf : fr w w2 (k) (k + 2) := hf.tr (gw2.wide (by omega) (by omega))
  have hk : w2 (k) = ob 0 [.ref (k + 1), .int (nI 0)] := by rw [hw2]; exact va_upd_self _ _ _
  refine ww_aload0 C dX0_init_12 ?_
  refine ww_iconst C (v := nI 0) dX0_init_13 (by decide) ?_
  refine ww_putI C fl_X0_15 hk (fs2 := [.ref (k + 1), .int (nI 0)]) (Nat.le_of_ble_eq_true rfl) rfl dX0_init_14 (fun w3 hw3 => ?_)
  have gw3 : fr w2 w3 (k) (k + 1) := fr.up hw3 (by omega) (by omega)
  have f1 : w3 (k + 1) = ai 12 (fun _ => 0) := (gw3 _ (by omega)).trans f1
  have hf : fr w w3 (k) (k + 2) := hf.tr (gw3.wide (by omega) (by omega))
  have hk : w3 (k) = ob 0 [.ref (k + 1), .int (nI 0)] := by rw [hw3]; exact va_upd_self _ _ _
  exact ww_rvq C dX0_init_17 rfl ⟨Nat.le_of_ble_eq_true rfl, Nat.le_of_ble_eq_true rfl⟩ ⟨⟨hk, f1, by decide, fun _ => Nat.zero_le _⟩, hf⟩
theorem i_X5 (g : Gx) (w : Wd) {k : Nat} (hk : w (k) = ob 5 [.null, .int (nI 0), .int (nI 0), .null]) (hk9 : k ≤ 89) : CT g yX5_init cX5_init 1 none rk_X5 (k + 1) (k + 3) w [.ref (k)] (R0q (fun w1 => SR w1 k (fun _ => 0) 0 0 (fun _ => 0) ∧ fr w w1 (k) (k + 3))) := by
  have hf : fr w w (k) (k + 3) := fr.rf
  refine CT.start [some (.ref (k))] (by decide +kernel) rfl (Nat.le_of_ble_eq_true rfl) (fun x C hnm => ?_)
  refine ww_aload0 C dX5_init_0 ?_
  refine ww_oinit C ml_X5_3 (Nat.le_of_ble_eq_true rfl) (Nat.le_of_ble_eq_true rfl) (Nat.le_of_ble_eq_true rfl) dX5_init_1 ?_
  refine ww_aload0 C dX5_init_4 ?_
  refine ww_sipush C (v := nI 400) dX5_init_5 (by decide) ?_
  refine ww_newB C (m0 := 400) (by decide) (by omega) (Nat.le_of_ble_eq_true rfl) (Nat.le_of_ble_eq_true rfl) dX5_init_8 (fun w1 hw1 => ?_)
  have gw1 : fr w w1 (k + 1) (k + 2) := fr.up hw1 (by omega) (by omega)
  have hk : w1 (k) = ob 5 [.null, .int (nI 0), .int (nI 0), .null] := (gw1 _ (by omega)).trans hk
  have hf : fr w w1 (k) (k + 3) := hf.tr (gw1.wide (by omega) (by omega))
  have f1 : w1 (k + 1) = ar 2 400 (fun _ => sb_b 0) := by rw [hw1]; exact va_upd_self _ _ _
  refine ww_putA C hnm fl_X5_9 rfl hk (fs2 := [.ref (k + 1), .int (nI 0), .int (nI 0), .null]) (Nat.le_of_ble_eq_true rfl) rfl dX5_init_10 (fun w2 hw2 => ?_)
  have gw2 : fr w1 w2 (k) (k + 1) := fr.up hw2 (by omega) (by omega)
  have f1 : w2 (k + 1) = ar 2 400 (fun _ => sb_b 0) := (gw2 _ (by omega)).trans f1
  have hf : fr w w2 (k) (k + 3) := hf.tr (gw2.wide (by omega) (by omega))
  have hk : w2 (k) = ob 5 [.ref (k + 1), .int (nI 0), .int (nI 0), .null] := by rw [hw2]; exact va_upd_self _ _ _
  refine ww_aload0 C dX5_init_13 ?_
  refine ww_iconst C (v := nI 0) dX5_init_14 (by decide) ?_
  refine ww_putI C fl_X5_15 hk (fs2 := [.ref (k + 1), .int (nI 0), .int (nI 0), .null]) (Nat.le_of_ble_eq_true rfl) rfl dX5_init_15 (fun w3 hw3 => ?_)
  have gw3 : fr w2 w3 (k) (k + 1) := fr.up hw3 (by omega) (by omega)
  have f1 : w3 (k + 1) = ar 2 400 (fun _ => sb_b 0) := (gw3 _ (by omega)).trans f1
  have hf : fr w w3 (k) (k + 3) := hf.tr (gw3.wide (by omega) (by omega))
  have hk : w3 (k) = ob 5 [.ref (k + 1), .int (nI 0), .int (nI 0), .null] := by rw [hw3]; exact va_upd_self _ _ _
  refine ww_aload0 C dX5_init_18 ?_
  refine ww_iconst C (v := nI 0) dX5_init_19 (by decide) ?_
  refine ww_putI C fl_X5_19 hk (fs2 := [.ref (k + 1), .int (nI 0), .int (nI 0), .null]) (Nat.le_of_ble_eq_true rfl) rfl dX5_init_20 (fun w4 hw4 => ?_)
  have gw4 : fr w3 w4 (k) (k + 1) := fr.up hw4 (by omega) (by omega)
  have f1 : w4 (k + 1) = ar 2 400 (fun _ => sb_b 0) := (gw4 _ (by omega)).trans f1
  have hf : fr w w4 (k) (k + 3) := hf.tr (gw4.wide (by omega) (by omega))
  have hk : w4 (k) = ob 5 [.ref (k + 1), .int (nI 0), .int (nI 0), .null] := by rw [hw4]; exact va_upd_self _ _ _
  refine ww_aload0 C dX5_init_23 ?_
  refine ww_bipush C (v := nI 6) dX5_init_24 (by decide) ?_
  refine ww_newI C (m0 := 6) (by decide) (by omega) (Nat.le_of_ble_eq_true rfl) (Nat.le_of_ble_eq_true rfl) dX5_init_26 (fun w5 hw5 => ?_)
  have gw5 : fr w4 w5 (k + 2) (k + 3) := fr.up hw5 (by omega) (by omega)
  have f1 : w5 (k + 1) = ar 2 400 (fun _ => sb_b 0) := (gw5 _ (by omega)).trans f1
  have hk : w5 (k) = ob 5 [.ref (k + 1), .int (nI 0), .int (nI 0), .null] := (gw5 _ (by omega)).trans hk
  have hf : fr w w5 (k) (k + 3) := hf.tr (gw5.wide (by omega) (by omega))
  have f2 : w5 (k + 2) = ai 6 (fun _ => 0) := by rw [hw5]; exact va_upd_self _ _ _
  refine ww_putA C hnm fl_X5_22 rfl hk (fs2 := [.ref (k + 1), .int (nI 0), .int (nI 0), .ref (k + 2)]) (Nat.le_of_ble_eq_true rfl) rfl dX5_init_28 (fun w6 hw6 => ?_)
  have gw6 : fr w5 w6 (k) (k + 1) := fr.up hw6 (by omega) (by omega)
  have f1 : w6 (k + 1) = ar 2 400 (fun _ => sb_b 0) := (gw6 _ (by omega)).trans f1
  have f2 : w6 (k + 2) = ai 6 (fun _ => 0) := (gw6 _ (by omega)).trans f2
  have hf : fr w w6 (k) (k + 3) := hf.tr (gw6.wide (by omega) (by omega))
  have hk : w6 (k) = ob 5 [.ref (k + 1), .int (nI 0), .int (nI 0), .ref (k + 2)] := by rw [hw6]; exact va_upd_self _ _ _
  exact ww_rvq C dX5_init_31 rfl ⟨Nat.le_of_ble_eq_true rfl, Nat.le_of_ble_eq_true rfl⟩ ⟨⟨hk, f1, f2, by decide, by decide, fun _ => Nat.zero_lt_succ _, fun _ => Nat.zero_le _⟩, hf⟩
theorem i_X1 (g : Gx) (w : Wd) {k : Nat} (hk : w (k) = ob 1 [.int (nI 0), .int (nI 0), .int (nI 0), .null, .null, .null, .null, .null, .null, .null, .null, .null, .int (nI 0)]) (hk9 : k ≤ 89) : CT g yX1_init cX1_init 1 none rk_X1 (k + 1) (k + 10) w [.ref (k)] (R0q (fun w1 => GR w1 k 0 1 0 (fun _ => 0) (fun _ => 0) (fun _ => 0) (fun _ => 0) (fun _ => 0) (fun _ => 0) (fun _ => 0) (fun _ => nI 0) (fun _ => 0) 0 ∧ fr w w1 (k) (k + 10))) := by
  have hf : fr w w (k) (k + 10) := fr.rf
  refine CT.start [some (.ref (k))] (by decide +kernel) rfl (Nat.le_of_ble_eq_true rfl) (fun x C hnm => ?_)
  refine ww_aload0 C dX1_init_0 ?_
  refine ww_oinit C ml_X1_3 (Nat.le_of_ble_eq_true rfl) (Nat.le_of_ble_eq_true rfl) (Nat.le_of_ble_eq_true rfl) dX1_init_1 ?_
  refine ww_aload0 C dX1_init_4 ?_
  refine ww_iconst C (v := nI 0) dX1_init_5 (by decide) ?_
  refine ww_putI C fl_X1_9 hk (fs2 := [.int (nI 0), .int (nI 0), .int (nI 0), .null, .null, .null, .null, .null, .null, .null, .null, .null, .int (nI 0)]) (Nat.le_of_ble_eq_true rfl) rfl dX1_init_6 (fun w1 hw1 => ?_)
  have gw1 : fr w w1 (k) (k + 1) := fr.up hw1 (by omega) (by omega)
  have hf : fr w w1 (k) (k + 10) := hf.tr (gw1.wide (by omega) (by omega))
  have hk : w1 (k) = ob 1 [.int (nI 0), .int (nI 0), .int (nI 0), .null, .null, .null, .null, .null, .null, .null, .null, .null, .int (nI 0)] := by rw [hw1]; exact va_upd_self _ _ _
  refine ww_aload0 C dX1_init_9 ?_
  refine ww_iconst C (v := nI 1) dX1_init_10 (by decide) ?_
  refine ww_putI C fl_X1_15 hk (fs2 := [.int (nI 0), .int (nI 1), .int (nI 0), .null, .null, .null, .null, .null, .null, .null, .null, .null, .int (nI 0)]) (Nat.le_of_ble_eq_true rfl) rfl dX1_init_11 (fun w2 hw2 => ?_)
  have gw2 : fr w1 w2 (k) (k + 1) := fr.up hw2 (by omega) (by omega)
  have hf : fr w w2 (k) (k + 10) := hf.tr (gw2.wide (by omega) (by omega))
  have hk : w2 (k) = ob 1 [.int (nI 0), .int (nI 1), .int (nI 0), .null, .null, .null, .null, .null, .null, .null, .null, .null, .int (nI 0)] := by rw [hw2]; exact va_upd_self _ _ _
  refine ww_aload0 C dX1_init_14 ?_
  refine ww_iconst C (v := nI 0) dX1_init_15 (by decide) ?_
  refine ww_putI C fl_X1_18 hk (fs2 := [.int (nI 0), .int (nI 1), .int (nI 0), .null, .null, .null, .null, .null, .null, .null, .null, .null, .int (nI 0)]) (Nat.le_of_ble_eq_true rfl) rfl dX1_init_16 (fun w3 hw3 => ?_)
  have gw3 : fr w2 w3 (k) (k + 1) := fr.up hw3 (by omega) (by omega)
  have hf : fr w w3 (k) (k + 10) := hf.tr (gw3.wide (by omega) (by omega))
  have hk : w3 (k) = ob 1 [.int (nI 0), .int (nI 1), .int (nI 0), .null, .null, .null, .null, .null, .null, .null, .null, .null, .int (nI 0)] := by rw [hw3]; exact va_upd_self _ _ _
  refine ww_aload0 C dX1_init_19 ?_
  refine ww_bipush C (v := nI 8) dX1_init_20 (by decide) ?_
  refine ww_newI C (m0 := 8) (by decide) (by omega) (Nat.le_of_ble_eq_true rfl) (Nat.le_of_ble_eq_true rfl) dX1_init_22 (fun w4 hw4 => ?_)
  have gw4 : fr w3 w4 (k + 1) (k + 2) := fr.up hw4 (by omega) (by omega)
  have hk : w4 (k) = ob 1 [.int (nI 0), .int (nI 1), .int (nI 0), .null, .null, .null, .null, .null, .null, .null, .null, .null, .int (nI 0)] := (gw4 _ (by omega)).trans hk
  have hf : fr w w4 (k) (k + 10) := hf.tr (gw4.wide (by omega) (by omega))
  have f1 : w4 (k + 1) = ai 8 (fun _ => 0) := by rw [hw4]; exact va_upd_self _ _ _
  refine ww_putA C hnm fl_X1_21 rfl hk (fs2 := [.int (nI 0), .int (nI 1), .int (nI 0), .ref (k + 1), .null, .null, .null, .null, .null, .null, .null, .null, .int (nI 0)]) (Nat.le_of_ble_eq_true rfl) rfl dX1_init_24 (fun w5 hw5 => ?_)
  have gw5 : fr w4 w5 (k) (k + 1) := fr.up hw5 (by omega) (by omega)
  have f1 : w5 (k + 1) = ai 8 (fun _ => 0) := (gw5 _ (by omega)).trans f1
  have hf : fr w w5 (k) (k + 10) := hf.tr (gw5.wide (by omega) (by omega))
  have hk : w5 (k) = ob 1 [.int (nI 0), .int (nI 1), .int (nI 0), .ref (k + 1), .null, .null, .null, .null, .null, .null, .null, .null, .int (nI 0)] := by rw [hw5]; exact va_upd_self _ _ _
  refine ww_aload0 C dX1_init_27 ?_
  refine ww_bipush C (v := nI 8) dX1_init_28 (by decide) ?_
  refine ww_newI C (m0 := 8) (by decide) (by omega) (Nat.le_of_ble_eq_true rfl) (Nat.le_of_ble_eq_true rfl) dX1_init_30 (fun w6 hw6 => ?_)
  have gw6 : fr w5 w6 (k + 2) (k + 3) := fr.up hw6 (by omega) (by omega)
  have f1 : w6 (k + 1) = ai 8 (fun _ => 0) := (gw6 _ (by omega)).trans f1
  have hk : w6 (k) = ob 1 [.int (nI 0), .int (nI 1), .int (nI 0), .ref (k + 1), .null, .null, .null, .null, .null, .null, .null, .null, .int (nI 0)] := (gw6 _ (by omega)).trans hk
  have hf : fr w w6 (k) (k + 10) := hf.tr (gw6.wide (by omega) (by omega))
  have f2 : w6 (k + 2) = ai 8 (fun _ => 0) := by rw [hw6]; exact va_upd_self _ _ _
  refine ww_putA C hnm fl_X1_25 rfl hk (fs2 := [.int (nI 0), .int (nI 1), .int (nI 0), .ref (k + 1), .ref (k + 2), .null, .null, .null, .null, .null, .null, .null, .int (nI 0)]) (Nat.le_of_ble_eq_true rfl) rfl dX1_init_32 (fun w7 hw7 => ?_)
  have gw7 : fr w6 w7 (k) (k + 1) := fr.up hw7 (by omega) (by omega)
  have f1 : w7 (k + 1) = ai 8 (fun _ => 0) := (gw7 _ (by omega)).trans f1
  have f2 : w7 (k + 2) = ai 8 (fun _ => 0) := (gw7 _ (by omega)).trans f2
  have hf : fr w w7 (k) (k + 10) := hf.tr (gw7.wide (by omega) (by omega))
  have hk : w7 (k) = ob 1 [.int (nI 0), .int (nI 1), .int (nI 0), .ref (k + 1), .ref (k + 2), .null, .null, .null, .null, .null, .null, .null, .int (nI 0)] := by rw [hw7]; exact va_upd_self _ _ _
  refine ww_aload0 C dX1_init_35 ?_
  refine ww_bipush C (v := nI 8) dX1_init_36 (by decide) ?_
  refine ww_newI C (m0 := 8) (by decide) (by omega) (Nat.le_of_ble_eq_true rfl) (Nat.le_of_ble_eq_true rfl) dX1_init_38 (fun w8 hw8 => ?_)
  have gw8 : fr w7 w8 (k + 3) (k + 4) := fr.up hw8 (by omega) (by omega)
  have f1 : w8 (k + 1) = ai 8 (fun _ => 0) := (gw8 _ (by omega)).trans f1
  have f2 : w8 (k + 2) = ai 8 (fun _ => 0) := (gw8 _ (by omega)).trans f2
  have hk : w8 (k) = ob 1 [.int (nI 0), .int (nI 1), .int (nI 0), .ref (k + 1), .ref (k + 2), .null, .null, .null, .null, .null, .null, .null, .int (nI 0)] := (gw8 _ (by omega)).trans hk
  have hf : fr w w8 (k) (k + 10) := hf.tr (gw8.wide (by omega) (by omega))
  have f3 : w8 (k + 3) = ai 8 (fun _ => 0) := by rw [hw8]; exact va_upd_self _ _ _
  refine ww_putA C hnm fl_X1_28 rfl hk (fs2 := [.int (nI 0), .int (nI 1), .int (nI 0), .ref (k + 1), .ref (k + 2), .ref (k + 3), .null, .null, .null, .null, .null, .null, .int (nI 0)]) (Nat.le_of_ble_eq_true rfl) rfl dX1_init_40 (fun w9 hw9 => ?_)
  have gw9 : fr w8 w9 (k) (k + 1) := fr.up hw9 (by omega) (by omega)
  have f1 : w9 (k + 1) = ai 8 (fun _ => 0) := (gw9 _ (by omega)).trans f1
  have f2 : w9 (k + 2) = ai 8 (fun _ => 0) := (gw9 _ (by omega)).trans f2
  have f3 : w9 (k + 3) = ai 8 (fun _ => 0) := (gw9 _ (by omega)).trans f3
  have hf : fr w w9 (k) (k + 10) := hf.tr (gw9.wide (by omega) (by omega))
  have hk : w9 (k) = ob 1 [.int (nI 0), .int (nI 1), .int (nI 0), .ref (k + 1), .ref (k + 2), .ref (k + 3), .null, .null, .null, .null, .null, .null, .int (nI 0)] := by rw [hw9]; exact va_upd_self _ _ _
  refine ww_aload0 C dX1_init_43 ?_
  refine ww_bipush C (v := nI 8) dX1_init_44 (by decide) ?_
  refine ww_newI C (m0 := 8) (by decide) (by omega) (Nat.le_of_ble_eq_true rfl) (Nat.le_of_ble_eq_true rfl) dX1_init_46 (fun w10 hw10 => ?_)
  have gw10 : fr w9 w10 (k + 4) (k + 5) := fr.up hw10 (by omega) (by omega)
  have f1 : w10 (k + 1) = ai 8 (fun _ => 0) := (gw10 _ (by omega)).trans f1
  have f2 : w10 (k + 2) = ai 8 (fun _ => 0) := (gw10 _ (by omega)).trans f2
  have f3 : w10 (k + 3) = ai 8 (fun _ => 0) := (gw10 _ (by omega)).trans f3
  have hk : w10 (k) = ob 1 [.int (nI 0), .int (nI 1), .int (nI 0), .ref (k + 1), .ref (k + 2), .ref (k + 3), .null, .null, .null, .null, .null, .null, .int (nI 0)] := (gw10 _ (by omega)).trans hk
  have hf : fr w w10 (k) (k + 10) := hf.tr (gw10.wide (by omega) (by omega))
  have f4 : w10 (k + 4) = ai 8 (fun _ => 0) := by rw [hw10]; exact va_upd_self _ _ _
  refine ww_putA C hnm fl_X1_31 rfl hk (fs2 := [.int (nI 0), .int (nI 1), .int (nI 0), .ref (k + 1), .ref (k + 2), .ref (k + 3), .ref (k + 4), .null, .null, .null, .null, .null, .int (nI 0)]) (Nat.le_of_ble_eq_true rfl) rfl dX1_init_48 (fun w11 hw11 => ?_)
  have gw11 : fr w10 w11 (k) (k + 1) := fr.up hw11 (by omega) (by omega)
  have f1 : w11 (k + 1) = ai 8 (fun _ => 0) := (gw11 _ (by omega)).trans f1
  have f2 : w11 (k + 2) = ai 8 (fun _ => 0) := (gw11 _ (by omega)).trans f2
  have f3 : w11 (k + 3) = ai 8 (fun _ => 0) := (gw11 _ (by omega)).trans f3
  have f4 : w11 (k + 4) = ai 8 (fun _ => 0) := (gw11 _ (by omega)).trans f4
  have hf : fr w w11 (k) (k + 10) := hf.tr (gw11.wide (by omega) (by omega))
  have hk : w11 (k) = ob 1 [.int (nI 0), .int (nI 1), .int (nI 0), .ref (k + 1), .ref (k + 2), .ref (k + 3), .ref (k + 4), .null, .null, .null, .null, .null, .int (nI 0)] := by rw [hw11]; exact va_upd_self _ _ _
  refine ww_aload0 C dX1_init_51 ?_
  refine ww_sipush C (v := nI 256) dX1_init_52 (by decide) ?_
  refine ww_newI C (m0 := 256) (by decide) (by omega) (Nat.le_of_ble_eq_true rfl) (Nat.le_of_ble_eq_true rfl) dX1_init_55 (fun w12 hw12 => ?_)
  have gw12 : fr w11 w12 (k + 5) (k + 6) := fr.up hw12 (by omega) (by omega)
  have f1 : w12 (k + 1) = ai 8 (fun _ => 0) := (gw12 _ (by omega)).trans f1
  have f2 : w12 (k + 2) = ai 8 (fun _ => 0) := (gw12 _ (by omega)).trans f2
  have f3 : w12 (k + 3) = ai 8 (fun _ => 0) := (gw12 _ (by omega)).trans f3
  have f4 : w12 (k + 4) = ai 8 (fun _ => 0) := (gw12 _ (by omega)).trans f4
  have hk : w12 (k) = ob 1 [.int (nI 0), .int (nI 1), .int (nI 0), .ref (k + 1), .ref (k + 2), .ref (k + 3), .ref (k + 4), .null, .null, .null, .null, .null, .int (nI 0)] := (gw12 _ (by omega)).trans hk
  have hf : fr w w12 (k) (k + 10) := hf.tr (gw12.wide (by omega) (by omega))
  have f5 : w12 (k + 5) = ai 256 (fun _ => 0) := by rw [hw12]; exact va_upd_self _ _ _
  refine ww_putA C hnm fl_X1_34 rfl hk (fs2 := [.int (nI 0), .int (nI 1), .int (nI 0), .ref (k + 1), .ref (k + 2), .ref (k + 3), .ref (k + 4), .ref (k + 5), .null, .null, .null, .null, .int (nI 0)]) (Nat.le_of_ble_eq_true rfl) rfl dX1_init_57 (fun w13 hw13 => ?_)
  have gw13 : fr w12 w13 (k) (k + 1) := fr.up hw13 (by omega) (by omega)
  have f1 : w13 (k + 1) = ai 8 (fun _ => 0) := (gw13 _ (by omega)).trans f1
  have f2 : w13 (k + 2) = ai 8 (fun _ => 0) := (gw13 _ (by omega)).trans f2
  have f3 : w13 (k + 3) = ai 8 (fun _ => 0) := (gw13 _ (by omega)).trans f3
  have f4 : w13 (k + 4) = ai 8 (fun _ => 0) := (gw13 _ (by omega)).trans f4
  have f5 : w13 (k + 5) = ai 256 (fun _ => 0) := (gw13 _ (by omega)).trans f5
  have hf : fr w w13 (k) (k + 10) := hf.tr (gw13.wide (by omega) (by omega))
  have hk : w13 (k) = ob 1 [.int (nI 0), .int (nI 1), .int (nI 0), .ref (k + 1), .ref (k + 2), .ref (k + 3), .ref (k + 4), .ref (k + 5), .null, .null, .null, .null, .int (nI 0)] := by rw [hw13]; exact va_upd_self _ _ _
  refine ww_aload0 C dX1_init_60 ?_
  refine ww_sipush C (v := nI 256) dX1_init_61 (by decide) ?_
  refine ww_newZ C (m0 := 256) (by decide) (by omega) (Nat.le_of_ble_eq_true rfl) (Nat.le_of_ble_eq_true rfl) dX1_init_64 (fun w14 hw14 => ?_)
  have gw14 : fr w13 w14 (k + 6) (k + 7) := fr.up hw14 (by omega) (by omega)
  have f1 : w14 (k + 1) = ai 8 (fun _ => 0) := (gw14 _ (by omega)).trans f1
  have f2 : w14 (k + 2) = ai 8 (fun _ => 0) := (gw14 _ (by omega)).trans f2
  have f3 : w14 (k + 3) = ai 8 (fun _ => 0) := (gw14 _ (by omega)).trans f3
  have f4 : w14 (k + 4) = ai 8 (fun _ => 0) := (gw14 _ (by omega)).trans f4
  have f5 : w14 (k + 5) = ai 256 (fun _ => 0) := (gw14 _ (by omega)).trans f5
  have hk : w14 (k) = ob 1 [.int (nI 0), .int (nI 1), .int (nI 0), .ref (k + 1), .ref (k + 2), .ref (k + 3), .ref (k + 4), .ref (k + 5), .null, .null, .null, .null, .int (nI 0)] := (gw14 _ (by omega)).trans hk
  have hf : fr w w14 (k) (k + 10) := hf.tr (gw14.wide (by omega) (by omega))
  have f6 : w14 (k + 6) = az 256 (fun _ => 0) := by rw [hw14]; exact va_upd_self _ _ _
  refine ww_putA C hnm fl_X1_37 rfl hk (fs2 := [.int (nI 0), .int (nI 1), .int (nI 0), .ref (k + 1), .ref (k + 2), .ref (k + 3), .ref (k + 4), .ref (k + 5), .ref (k + 6), .null, .null, .null, .int (nI 0)]) (Nat.le_of_ble_eq_true rfl) rfl dX1_init_66 (fun w15 hw15 => ?_)
  have gw15 : fr w14 w15 (k) (k + 1) := fr.up hw15 (by omega) (by omega)
  have f1 : w15 (k + 1) = ai 8 (fun _ => 0) := (gw15 _ (by omega)).trans f1
  have f2 : w15 (k + 2) = ai 8 (fun _ => 0) := (gw15 _ (by omega)).trans f2
  have f3 : w15 (k + 3) = ai 8 (fun _ => 0) := (gw15 _ (by omega)).trans f3
  have f4 : w15 (k + 4) = ai 8 (fun _ => 0) := (gw15 _ (by omega)).trans f4
  have f5 : w15 (k + 5) = ai 256 (fun _ => 0) := (gw15 _ (by omega)).trans f5
  have f6 : w15 (k + 6) = az 256 (fun _ => 0) := (gw15 _ (by omega)).trans f6
  have hf : fr w w15 (k) (k + 10) := hf.tr (gw15.wide (by omega) (by omega))
  have hk : w15 (k) = ob 1 [.int (nI 0), .int (nI 1), .int (nI 0), .ref (k + 1), .ref (k + 2), .ref (k + 3), .ref (k + 4), .ref (k + 5), .ref (k + 6), .null, .null, .null, .int (nI 0)] := by rw [hw15]; exact va_upd_self _ _ _
  refine ww_aload0 C dX1_init_69 ?_
  refine ww_bipush C (v := nI 8) dX1_init_70 (by decide) ?_
  refine ww_newI C (m0 := 8) (by decide) (by omega) (Nat.le_of_ble_eq_true rfl) (Nat.le_of_ble_eq_true rfl) dX1_init_72 (fun w16 hw16 => ?_)
  have gw16 : fr w15 w16 (k + 7) (k + 8) := fr.up hw16 (by omega) (by omega)
  have f1 : w16 (k + 1) = ai 8 (fun _ => 0) := (gw16 _ (by omega)).trans f1
  have f2 : w16 (k + 2) = ai 8 (fun _ => 0) := (gw16 _ (by omega)).trans f2
  have f3 : w16 (k + 3) = ai 8 (fun _ => 0) := (gw16 _ (by omega)).trans f3
  have f4 : w16 (k + 4) = ai 8 (fun _ => 0) := (gw16 _ (by omega)).trans f4
  have f5 : w16 (k + 5) = ai 256 (fun _ => 0) := (gw16 _ (by omega)).trans f5
  have f6 : w16 (k + 6) = az 256 (fun _ => 0) := (gw16 _ (by omega)).trans f6
  have hk : w16 (k) = ob 1 [.int (nI 0), .int (nI 1), .int (nI 0), .ref (k + 1), .ref (k + 2), .ref (k + 3), .ref (k + 4), .ref (k + 5), .ref (k + 6), .null, .null, .null, .int (nI 0)] := (gw16 _ (by omega)).trans hk
  have hf : fr w w16 (k) (k + 10) := hf.tr (gw16.wide (by omega) (by omega))
  have f7 : w16 (k + 7) = ai 8 (fun _ => 0) := by rw [hw16]; exact va_upd_self _ _ _
  refine ww_putA C hnm fl_X1_41 rfl hk (fs2 := [.int (nI 0), .int (nI 1), .int (nI 0), .ref (k + 1), .ref (k + 2), .ref (k + 3), .ref (k + 4), .ref (k + 5), .ref (k + 6), .ref (k + 7), .null, .null, .int (nI 0)]) (Nat.le_of_ble_eq_true rfl) rfl dX1_init_74 (fun w17 hw17 => ?_)
  have gw17 : fr w16 w17 (k) (k + 1) := fr.up hw17 (by omega) (by omega)
  have f1 : w17 (k + 1) = ai 8 (fun _ => 0) := (gw17 _ (by omega)).trans f1
  have f2 : w17 (k + 2) = ai 8 (fun _ => 0) := (gw17 _ (by omega)).trans f2
  have f3 : w17 (k + 3) = ai 8 (fun _ => 0) := (gw17 _ (by omega)).trans f3
  have f4 : w17 (k + 4) = ai 8 (fun _ => 0) := (gw17 _ (by omega)).trans f4
  have f5 : w17 (k + 5) = ai 256 (fun _ => 0) := (gw17 _ (by omega)).trans f5
  have f6 : w17 (k + 6) = az 256 (fun _ => 0) := (gw17 _ (by omega)).trans f6
  have f7 : w17 (k + 7) = ai 8 (fun _ => 0) := (gw17 _ (by omega)).trans f7
  have hf : fr w w17 (k) (k + 10) := hf.tr (gw17.wide (by omega) (by omega))
  have hk : w17 (k) = ob 1 [.int (nI 0), .int (nI 1), .int (nI 0), .ref (k + 1), .ref (k + 2), .ref (k + 3), .ref (k + 4), .ref (k + 5), .ref (k + 6), .ref (k + 7), .null, .null, .int (nI 0)] := by rw [hw17]; exact va_upd_self _ _ _
  refine ww_aload0 C dX1_init_77 ?_
  refine ww_sipush C (v := nI 256) dX1_init_78 (by decide) ?_
  refine ww_newI C (m0 := 256) (by decide) (by omega) (Nat.le_of_ble_eq_true rfl) (Nat.le_of_ble_eq_true rfl) dX1_init_81 (fun w18 hw18 => ?_)
  have gw18 : fr w17 w18 (k + 8) (k + 9) := fr.up hw18 (by omega) (by omega)
  have f1 : w18 (k + 1) = ai 8 (fun _ => 0) := (gw18 _ (by omega)).trans f1
  have f2 : w18 (k + 2) = ai 8 (fun _ => 0) := (gw18 _ (by omega)).trans f2
  have f3 : w18 (k + 3) = ai 8 (fun _ => 0) := (gw18 _ (by omega)).trans f3
  have f4 : w18 (k + 4) = ai 8 (fun _ => 0) := (gw18 _ (by omega)).trans f4
  have f5 : w18 (k + 5) = ai 256 (fun _ => 0) := (gw18 _ (by omega)).trans f5
  have f6 : w18 (k + 6) = az 256 (fun _ => 0) := (gw18 _ (by omega)).trans f6
  have f7 : w18 (k + 7) = ai 8 (fun _ => 0) := (gw18 _ (by omega)).trans f7
  have hk : w18 (k) = ob 1 [.int (nI 0), .int (nI 1), .int (nI 0), .ref (k + 1), .ref (k + 2), .ref (k + 3), .ref (k + 4), .ref (k + 5), .ref (k + 6), .ref (k + 7), .null, .null, .int (nI 0)] := (gw18 _ (by omega)).trans hk
  have hf : fr w w18 (k) (k + 10) := hf.tr (gw18.wide (by omega) (by omega))
  have f8 : w18 (k + 8) = ai 256 (fun _ => 0) := by rw [hw18]; exact va_upd_self _ _ _
  refine ww_putA C hnm fl_X1_44 rfl hk (fs2 := [.int (nI 0), .int (nI 1), .int (nI 0), .ref (k + 1), .ref (k + 2), .ref (k + 3), .ref (k + 4), .ref (k + 5), .ref (k + 6), .ref (k + 7), .ref (k + 8), .null, .int (nI 0)]) (Nat.le_of_ble_eq_true rfl) rfl dX1_init_83 (fun w19 hw19 => ?_)
  have gw19 : fr w18 w19 (k) (k + 1) := fr.up hw19 (by omega) (by omega)
  have f1 : w19 (k + 1) = ai 8 (fun _ => 0) := (gw19 _ (by omega)).trans f1
  have f2 : w19 (k + 2) = ai 8 (fun _ => 0) := (gw19 _ (by omega)).trans f2
  have f3 : w19 (k + 3) = ai 8 (fun _ => 0) := (gw19 _ (by omega)).trans f3
  have f4 : w19 (k + 4) = ai 8 (fun _ => 0) := (gw19 _ (by omega)).trans f4
  have f5 : w19 (k + 5) = ai 256 (fun _ => 0) := (gw19 _ (by omega)).trans f5
  have f6 : w19 (k + 6) = az 256 (fun _ => 0) := (gw19 _ (by omega)).trans f6
  have f7 : w19 (k + 7) = ai 8 (fun _ => 0) := (gw19 _ (by omega)).trans f7
  have f8 : w19 (k + 8) = ai 256 (fun _ => 0) := (gw19 _ (by omega)).trans f8
  have hf : fr w w19 (k) (k + 10) := hf.tr (gw19.wide (by omega) (by omega))
  have hk : w19 (k) = ob 1 [.int (nI 0), .int (nI 1), .int (nI 0), .ref (k + 1), .ref (k + 2), .ref (k + 3), .ref (k + 4), .ref (k + 5), .ref (k + 6), .ref (k + 7), .ref (k + 8), .null, .int (nI 0)] := by rw [hw19]; exact va_upd_self _ _ _
  refine ww_aload0 C dX1_init_86 ?_
  refine ww_bipush C (v := nI 8) dX1_init_87 (by decide) ?_
  refine ww_newI C (m0 := 8) (by decide) (by omega) (Nat.le_of_ble_eq_true rfl) (Nat.le_of_ble_eq_true rfl) dX1_init_89 (fun w20 hw20 => ?_)
  have gw20 : fr w19 w20 (k + 9) (k + 10) := fr.up hw20 (by omega) (by omega)
  have f1 : w20 (k + 1) = ai 8 (fun _ => 0) := (gw20 _ (by omega)).trans f1
  have f2 : w20 (k + 2) = ai 8 (fun _ => 0) := (gw20 _ (by omega)).trans f2
  have f3 : w20 (k + 3) = ai 8 (fun _ => 0) := (gw20 _ (by omega)).trans f3
  have f4 : w20 (k + 4) = ai 8 (fun _ => 0) := (gw20 _ (by omega)).trans f4
  have f5 : w20 (k + 5) = ai 256 (fun _ => 0) := (gw20 _ (by omega)).trans f5
  have f6 : w20 (k + 6) = az 256 (fun _ => 0) := (gw20 _ (by omega)).trans f6
  have f7 : w20 (k + 7) = ai 8 (fun _ => 0) := (gw20 _ (by omega)).trans f7
  have f8 : w20 (k + 8) = ai 256 (fun _ => 0) := (gw20 _ (by omega)).trans f8
  have hk : w20 (k) = ob 1 [.int (nI 0), .int (nI 1), .int (nI 0), .ref (k + 1), .ref (k + 2), .ref (k + 3), .ref (k + 4), .ref (k + 5), .ref (k + 6), .ref (k + 7), .ref (k + 8), .null, .int (nI 0)] := (gw20 _ (by omega)).trans hk
  have hf : fr w w20 (k) (k + 10) := hf.tr (gw20.wide (by omega) (by omega))
  have f9 : w20 (k + 9) = ai 8 (fun _ => 0) := by rw [hw20]; exact va_upd_self _ _ _
  refine ww_putA C hnm fl_X1_47 rfl hk (fs2 := [.int (nI 0), .int (nI 1), .int (nI 0), .ref (k + 1), .ref (k + 2), .ref (k + 3), .ref (k + 4), .ref (k + 5), .ref (k + 6), .ref (k + 7), .ref (k + 8), .ref (k + 9), .int (nI 0)]) (Nat.le_of_ble_eq_true rfl) rfl dX1_init_91 (fun w21 hw21 => ?_)
  have gw21 : fr w20 w21 (k) (k + 1) := fr.up hw21 (by omega) (by omega)
  have f1 : w21 (k + 1) = ai 8 (fun _ => 0) := (gw21 _ (by omega)).trans f1
  have f2 : w21 (k + 2) = ai 8 (fun _ => 0) := (gw21 _ (by omega)).trans f2
  have f3 : w21 (k + 3) = ai 8 (fun _ => 0) := (gw21 _ (by omega)).trans f3
  have f4 : w21 (k + 4) = ai 8 (fun _ => 0) := (gw21 _ (by omega)).trans f4
  have f5 : w21 (k + 5) = ai 256 (fun _ => 0) := (gw21 _ (by omega)).trans f5
  have f6 : w21 (k + 6) = az 256 (fun _ => 0) := (gw21 _ (by omega)).trans f6
  have f7 : w21 (k + 7) = ai 8 (fun _ => 0) := (gw21 _ (by omega)).trans f7
  have f8 : w21 (k + 8) = ai 256 (fun _ => 0) := (gw21 _ (by omega)).trans f8
  have f9 : w21 (k + 9) = ai 8 (fun _ => 0) := (gw21 _ (by omega)).trans f9
  have hf : fr w w21 (k) (k + 10) := hf.tr (gw21.wide (by omega) (by omega))
  have hk : w21 (k) = ob 1 [.int (nI 0), .int (nI 1), .int (nI 0), .ref (k + 1), .ref (k + 2), .ref (k + 3), .ref (k + 4), .ref (k + 5), .ref (k + 6), .ref (k + 7), .ref (k + 8), .ref (k + 9), .int (nI 0)] := by rw [hw21]; exact va_upd_self _ _ _
  refine ww_aload0 C dX1_init_94 ?_
  refine ww_iconst C (v := nI 0) dX1_init_95 (by decide) ?_
  refine ww_putI C fl_X1_50 hk (fs2 := [.int (nI 0), .int (nI 1), .int (nI 0), .ref (k + 1), .ref (k + 2), .ref (k + 3), .ref (k + 4), .ref (k + 5), .ref (k + 6), .ref (k + 7), .ref (k + 8), .ref (k + 9), .int (nI 0)]) (Nat.le_of_ble_eq_true rfl) rfl dX1_init_96 (fun w22 hw22 => ?_)
  have gw22 : fr w21 w22 (k) (k + 1) := fr.up hw22 (by omega) (by omega)
  have f1 : w22 (k + 1) = ai 8 (fun _ => 0) := (gw22 _ (by omega)).trans f1
  have f2 : w22 (k + 2) = ai 8 (fun _ => 0) := (gw22 _ (by omega)).trans f2
  have f3 : w22 (k + 3) = ai 8 (fun _ => 0) := (gw22 _ (by omega)).trans f3
  have f4 : w22 (k + 4) = ai 8 (fun _ => 0) := (gw22 _ (by omega)).trans f4
  have f5 : w22 (k + 5) = ai 256 (fun _ => 0) := (gw22 _ (by omega)).trans f5
  have f6 : w22 (k + 6) = az 256 (fun _ => 0) := (gw22 _ (by omega)).trans f6
  have f7 : w22 (k + 7) = ai 8 (fun _ => 0) := (gw22 _ (by omega)).trans f7
  have f8 : w22 (k + 8) = ai 256 (fun _ => 0) := (gw22 _ (by omega)).trans f8
  have f9 : w22 (k + 9) = ai 8 (fun _ => 0) := (gw22 _ (by omega)).trans f9
  have hf : fr w w22 (k) (k + 10) := hf.tr (gw22.wide (by omega) (by omega))
  have hk : w22 (k) = ob 1 [.int (nI 0), .int (nI 1), .int (nI 0), .ref (k + 1), .ref (k + 2), .ref (k + 3), .ref (k + 4), .ref (k + 5), .ref (k + 6), .ref (k + 7), .ref (k + 8), .ref (k + 9), .int (nI 0)] := by rw [hw22]; exact va_upd_self _ _ _
  exact ww_rvq C dX1_init_99 rfl ⟨Nat.le_of_ble_eq_true rfl, Nat.le_of_ble_eq_true rfl⟩ ⟨⟨hk, f1, f2, f3, f4, f5, f6, f7, f8, f9, fun _ => Nat.zero_le _, fun _ => Nat.zero_le _, fun _ => Nat.zero_le _, fun _ => Nat.zero_le _, fun _ => Nat.zero_le _, fun _ => Nat.zero_le _, fun _ => Nat.zero_le _, fun _ => Nat.zero_le _, by decide, by decide, by decide, by decide⟩, hf⟩
theorem i_X3 (g : Gx) (w : Wd) {k : Nat} (hk : w (k) = ob 3 [.null, .null]) (hk9 : k ≤ 80) : CT g yX3_init cX3_init 1 none rk_X3 (k + 1) (k + 7) w [.ref (k)] (R0q (fun w1 => MYs w1 k (((fun _ => 0), (fun _ => 0), (fun _ => 0), (fun _ => 0), 0) : Ms) 0 ∧ fr w w1 (k) (k + 7))) := by
  have hf : fr w w (k) (k + 7) := fr.rf
  refine CT.start [some (.ref (k))] (by decide +kernel) rfl (Nat.le_of_ble_eq_true rfl) (fun x C hnm => ?_)
  refine ww_aload0 C dX3_init_0 ?_
  refine ww_oinit C ml_X3_1 (Nat.le_of_ble_eq_true rfl) (Nat.le_of_ble_eq_true rfl) (Nat.le_of_ble_eq_true rfl) dX3_init_1 ?_
  refine ww_aload0 C dX3_init_4 ?_
  refine ww_new C nk_X3_7 (by omega) (Nat.le_of_ble_eq_true rfl) (Nat.le_of_ble_eq_true rfl) dX3_init_5 (fun w1 hw1 => ?_)
  have gw1 : fr w w1 (k + 1) (k + 2) := fr.up hw1 (by omega) (by omega)
  have hk : w1 (k) = ob 3 [.null, .null] := (gw1 _ (by omega)).trans hk
  have hf : fr w w1 (k) (k + 7) := hf.tr (gw1.wide (by omega) (by omega))
  have f1 : w1 (k + 1) = ob 4 [.null, .null, .null, .int (nI 0)] := by rw [hw1]; exact va_upd_self _ _ _
  refine ww_dup C dX3_init_8 rfl ?_
  refine ww_mk C f1 (i_X4 g w1 (k := k + 1) f1 (by omega)) kIN_X3_9 ⟨Nat.le_of_ble_eq_true rfl, Nat.le_of_ble_eq_true rfl⟩ ⟨Nat.le_of_ble_eq_true rfl, Nat.le_of_ble_eq_true rfl⟩ (Nat.le_of_ble_eq_true rfl) dX3_init_9 (fun w2 hw2 => ?_)
  obtain ⟨p1, gw2⟩ := hw2
  have hk : w2 (k) = ob 3 [.null, .null] := (gw2 _ (by omega)).trans hk
  have hf : fr w w2 (k) (k + 7) := hf.tr (gw2.wide (by omega) (by omega))
  refine ww_putO C hnm fl_X3_10 rfl hk (fs2 := [.ref (k + 1), .null]) (Nat.le_of_ble_eq_true rfl) rfl dX3_init_12 (fun w3 hw3 => ?_)
  have gw3 : fr w2 w3 (k) (k + 1) := fr.up hw3 (by omega) (by omega)
  have p1 := p1.fr gw3 (by omega)
  have hf : fr w w3 (k) (k + 7) := hf.tr (gw3.wide (by omega) (by omega))
  have hk : w3 (k) = ob 3 [.ref (k + 1), .null] := by rw [hw3]; exact va_upd_self _ _ _
  refine ww_aload0 C dX3_init_15 ?_
  refine ww_new C nk_X3_16 (by omega) (Nat.le_of_ble_eq_true rfl) (Nat.le_of_ble_eq_true rfl) dX3_init_16 (fun w4 hw4 => ?_)
  have gw4 : fr w3 w4 (k + 5) (k + 6) := fr.up hw4 (by omega) (by omega)
  have hk : w4 (k) = ob 3 [.ref (k + 1), .null] := (gw4 _ (by omega)).trans hk
  have p1 := p1.fr gw4 (by omega)
  have hf : fr w w4 (k) (k + 7) := hf.tr (gw4.wide (by omega) (by omega))
  have f5 : w4 (k + 5) = ob 0 [.null, .int (nI 0)] := by rw [hw4]; exact va_upd_self _ _ _
  refine ww_dup C dX3_init_19 rfl ?_
  refine ww_mk C f5 (i_X0 g w4 (k := k + 5) f5 (by omega)) kIN_X3_18 ⟨Nat.le_of_ble_eq_true rfl, Nat.le_of_ble_eq_true rfl⟩ ⟨Nat.le_of_ble_eq_true rfl, Nat.le_of_ble_eq_true rfl⟩ (Nat.le_of_ble_eq_true rfl) dX3_init_20 (fun w5 hw5 => ?_)
  obtain ⟨p5, gw5⟩ := hw5
  have hk : w5 (k) = ob 3 [.ref (k + 1), .null] := (gw5 _ (by omega)).trans hk
  have p1 := p1.fr gw5 (by omega)
  have hf : fr w w5 (k) (k + 7) := hf.tr (gw5.wide (by omega) (by omega))
  refine ww_putO C hnm fl_X3_19 rfl hk (fs2 := [.ref (k + 1), .ref (k + 5)]) (Nat.le_of_ble_eq_true rfl) rfl dX3_init_23 (fun w6 hw6 => ?_)
  have gw6 : fr w5 w6 (k) (k + 1) := fr.up hw6 (by omega) (by omega)
  have p1 := p1.fr gw6 (by omega)
  have p5 := p5.fr gw6 (by omega)
  have hf : fr w w6 (k) (k + 7) := hf.tr (gw6.wide (by omega) (by omega))
  have hk : w6 (k) = ob 3 [.ref (k + 1), .ref (k + 5)] := by rw [hw6]; exact va_upd_self _ _ _
  exact ww_rvq C dX3_init_26 rfl ⟨Nat.le_of_ble_eq_true rfl, Nat.le_of_ble_eq_true rfl⟩ ⟨⟨hk, p1, p5⟩, hf⟩
theorem i_X2 (g : Gx) (w : Wd) {k : Nat} (hk : w (k) = ob 2 [.null, .null, .null, .null, .null, .null, .int (nI 0), .int (nI 0), .int (nI 0)]) (hk9 : k ≤ 80) : CT g yX2_init cX2_init 1 none rk_X2 (k + 1) (k + 10) w [.ref k] (R0q (fun w1 => HS w1 k (((fun _ => 0), (fun _ => 0), (fun _ => 0), 0, (fun _ => 0), (fun _ => 0), filN (fun d => d) (fun _ => 0) 6, filN (fun _ => 0) (fun _ => 0) 6, filN (fun _ => 1) (fun _ => 0) 6, 4, 3, 1) : Hs) ∧ fr w w1 k (k + 10))) := by
  have hf : fr w w (k) (k + 10) := fr.rf
  refine CT.start [some (.ref k)] (by decide +kernel) rfl (Nat.le_of_ble_eq_true rfl) (fun x C hnm => ?_)
  refine ww_aload0 C dX2_init_0 ?_
  refine ww_oinit C ml_X2_3 (Nat.le_of_ble_eq_true rfl) (Nat.le_of_ble_eq_true rfl) (Nat.le_of_ble_eq_true rfl) dX2_init_1 ?_
  refine ww_aload0 C dX2_init_4 ?_
  refine ww_new C nk_X2_9 (by omega) (Nat.le_of_ble_eq_true rfl) (Nat.le_of_ble_eq_true rfl) dX2_init_5 (fun w1 hw1 => ?_)
  have gw1 : fr w w1 (k + 1) (k + 2) := fr.up hw1 (by omega) (by omega)
  have hk : w1 (k) = ob 2 [.null, .null, .null, .null, .null, .null, .int (nI 0), .int (nI 0), .int (nI 0)] := (gw1 _ (by omega)).trans hk
  have hf : fr w w1 (k) (k + 10) := hf.tr (gw1.wide (by omega) (by omega))
  have f1 : w1 (k + 1) = ob 4 [.null, .null, .null, .int (nI 0)] := by rw [hw1]; exact va_upd_self _ _ _
  refine ww_dup C dX2_init_8 rfl ?_
  refine ww_mk C f1 (i_X4 g w1 (k := k + 1) f1 (by omega)) kIN_X2_11 ⟨Nat.le_of_ble_eq_true rfl, Nat.le_of_ble_eq_true rfl⟩ ⟨Nat.le_of_ble_eq_true rfl, Nat.le_of_ble_eq_true rfl⟩ (Nat.le_of_ble_eq_true rfl) dX2_init_9 (fun w2 hw2 => ?_)
  obtain ⟨p1, gw2⟩ := hw2
  have hk : w2 (k) = ob 2 [.null, .null, .null, .null, .null, .null, .int (nI 0), .int (nI 0), .int (nI 0)] := (gw2 _ (by omega)).trans hk
  have hf : fr w w2 (k) (k + 10) := hf.tr (gw2.wide (by omega) (by omega))
  refine ww_putO C hnm fl_X2_12 rfl hk (fs2 := [.ref (k + 1), .null, .null, .null, .null, .null, .int (nI 0), .int (nI 0), .int (nI 0)]) (Nat.le_of_ble_eq_true rfl) rfl dX2_init_12 (fun w3 hw3 => ?_)
  have gw3 : fr w2 w3 (k) (k + 1) := fr.up hw3 (by omega) (by omega)
  have p1 := p1.fr gw3 (by omega)
  have hf : fr w w3 (k) (k + 10) := hf.tr (gw3.wide (by omega) (by omega))
  have hk : w3 (k) = ob 2 [.ref (k + 1), .null, .null, .null, .null, .null, .int (nI 0), .int (nI 0), .int (nI 0)] := by rw [hw3]; exact va_upd_self _ _ _
  refine ww_aload0 C dX2_init_15 ?_
  refine ww_bipush C (v := nI 8) dX2_init_16 (by decide) ?_
  refine ww_newI C (m0 := 8) (by decide) (by omega) (Nat.le_of_ble_eq_true rfl) (Nat.le_of_ble_eq_true rfl) dX2_init_18 (fun w4 hw4 => ?_)
  have gw4 : fr w3 w4 (k + 5) (k + 6) := fr.up hw4 (by omega) (by omega)
  have hk : w4 (k) = ob 2 [.ref (k + 1), .null, .null, .null, .null, .null, .int (nI 0), .int (nI 0), .int (nI 0)] := (gw4 _ (by omega)).trans hk
  have p1 := p1.fr gw4 (by omega)
  have hf : fr w w4 (k) (k + 10) := hf.tr (gw4.wide (by omega) (by omega))
  have f5 : w4 (k + 5) = ai 8 (fun _ => 0) := by rw [hw4]; exact va_upd_self _ _ _
  refine ww_putA C hnm fl_X2_18 rfl hk (fs2 := [.ref (k + 1), .ref (k + 5), .null, .null, .null, .null, .int (nI 0), .int (nI 0), .int (nI 0)]) (Nat.le_of_ble_eq_true rfl) rfl dX2_init_20 (fun w5 hw5 => ?_)
  have gw5 : fr w4 w5 (k) (k + 1) := fr.up hw5 (by omega) (by omega)
  have f5 : w5 (k + 5) = ai 8 (fun _ => 0) := (gw5 _ (by omega)).trans f5
  have p1 := p1.fr gw5 (by omega)
  have hf : fr w w5 (k) (k + 10) := hf.tr (gw5.wide (by omega) (by omega))
  have hk : w5 (k) = ob 2 [.ref (k + 1), .ref (k + 5), .null, .null, .null, .null, .int (nI 0), .int (nI 0), .int (nI 0)] := by rw [hw5]; exact va_upd_self _ _ _
  refine ww_aload0 C dX2_init_23 ?_
  refine ww_bipush C (v := nI 8) dX2_init_24 (by decide) ?_
  refine ww_newI C (m0 := 8) (by decide) (by omega) (Nat.le_of_ble_eq_true rfl) (Nat.le_of_ble_eq_true rfl) dX2_init_26 (fun w6 hw6 => ?_)
  have gw6 : fr w5 w6 (k + 6) (k + 7) := fr.up hw6 (by omega) (by omega)
  have f5 : w6 (k + 5) = ai 8 (fun _ => 0) := (gw6 _ (by omega)).trans f5
  have hk : w6 (k) = ob 2 [.ref (k + 1), .ref (k + 5), .null, .null, .null, .null, .int (nI 0), .int (nI 0), .int (nI 0)] := (gw6 _ (by omega)).trans hk
  have p1 := p1.fr gw6 (by omega)
  have hf : fr w w6 (k) (k + 10) := hf.tr (gw6.wide (by omega) (by omega))
  have f6 : w6 (k + 6) = ai 8 (fun _ => 0) := by rw [hw6]; exact va_upd_self _ _ _
  refine ww_putA C hnm fl_X2_22 rfl hk (fs2 := [.ref (k + 1), .ref (k + 5), .ref (k + 6), .null, .null, .null, .int (nI 0), .int (nI 0), .int (nI 0)]) (Nat.le_of_ble_eq_true rfl) rfl dX2_init_28 (fun w7 hw7 => ?_)
  have gw7 : fr w6 w7 (k) (k + 1) := fr.up hw7 (by omega) (by omega)
  have f5 : w7 (k + 5) = ai 8 (fun _ => 0) := (gw7 _ (by omega)).trans f5
  have f6 : w7 (k + 6) = ai 8 (fun _ => 0) := (gw7 _ (by omega)).trans f6
  have p1 := p1.fr gw7 (by omega)
  have hf : fr w w7 (k) (k + 10) := hf.tr (gw7.wide (by omega) (by omega))
  have hk : w7 (k) = ob 2 [.ref (k + 1), .ref (k + 5), .ref (k + 6), .null, .null, .null, .int (nI 0), .int (nI 0), .int (nI 0)] := by rw [hw7]; exact va_upd_self _ _ _
  refine ww_aload0 C dX2_init_31 ?_
  refine ww_bipush C (v := nI 6) dX2_init_32 (by decide) ?_
  refine ww_newI C (m0 := 6) (by decide) (by omega) (Nat.le_of_ble_eq_true rfl) (Nat.le_of_ble_eq_true rfl) dX2_init_34 (fun w8 hw8 => ?_)
  have gw8 : fr w7 w8 (k + 7) (k + 8) := fr.up hw8 (by omega) (by omega)
  have f5 : w8 (k + 5) = ai 8 (fun _ => 0) := (gw8 _ (by omega)).trans f5
  have f6 : w8 (k + 6) = ai 8 (fun _ => 0) := (gw8 _ (by omega)).trans f6
  have hk : w8 (k) = ob 2 [.ref (k + 1), .ref (k + 5), .ref (k + 6), .null, .null, .null, .int (nI 0), .int (nI 0), .int (nI 0)] := (gw8 _ (by omega)).trans hk
  have p1 := p1.fr gw8 (by omega)
  have hf : fr w w8 (k) (k + 10) := hf.tr (gw8.wide (by omega) (by omega))
  have f7 : w8 (k + 7) = ai 6 (fun _ => 0) := by rw [hw8]; exact va_upd_self _ _ _
  refine ww_putA C hnm fl_X2_25 rfl hk (fs2 := [.ref (k + 1), .ref (k + 5), .ref (k + 6), .ref (k + 7), .null, .null, .int (nI 0), .int (nI 0), .int (nI 0)]) (Nat.le_of_ble_eq_true rfl) rfl dX2_init_36 (fun w9 hw9 => ?_)
  have gw9 : fr w8 w9 (k) (k + 1) := fr.up hw9 (by omega) (by omega)
  have f5 : w9 (k + 5) = ai 8 (fun _ => 0) := (gw9 _ (by omega)).trans f5
  have f6 : w9 (k + 6) = ai 8 (fun _ => 0) := (gw9 _ (by omega)).trans f6
  have f7 : w9 (k + 7) = ai 6 (fun _ => 0) := (gw9 _ (by omega)).trans f7
  have p1 := p1.fr gw9 (by omega)
  have hf : fr w w9 (k) (k + 10) := hf.tr (gw9.wide (by omega) (by omega))
  have hk : w9 (k) = ob 2 [.ref (k + 1), .ref (k + 5), .ref (k + 6), .ref (k + 7), .null, .null, .int (nI 0), .int (nI 0), .int (nI 0)] := by rw [hw9]; exact va_upd_self _ _ _
  refine ww_aload0 C dX2_init_39 ?_
  refine ww_bipush C (v := nI 6) dX2_init_40 (by decide) ?_
  refine ww_newZ C (m0 := 6) (by decide) (by omega) (Nat.le_of_ble_eq_true rfl) (Nat.le_of_ble_eq_true rfl) dX2_init_42 (fun w10 hw10 => ?_)
  have gw10 : fr w9 w10 (k + 8) (k + 9) := fr.up hw10 (by omega) (by omega)
  have f5 : w10 (k + 5) = ai 8 (fun _ => 0) := (gw10 _ (by omega)).trans f5
  have f6 : w10 (k + 6) = ai 8 (fun _ => 0) := (gw10 _ (by omega)).trans f6
  have f7 : w10 (k + 7) = ai 6 (fun _ => 0) := (gw10 _ (by omega)).trans f7
  have hk : w10 (k) = ob 2 [.ref (k + 1), .ref (k + 5), .ref (k + 6), .ref (k + 7), .null, .null, .int (nI 0), .int (nI 0), .int (nI 0)] := (gw10 _ (by omega)).trans hk
  have p1 := p1.fr gw10 (by omega)
  have hf : fr w w10 (k) (k + 10) := hf.tr (gw10.wide (by omega) (by omega))
  have f8 : w10 (k + 8) = az 6 (fun _ => 0) := by rw [hw10]; exact va_upd_self _ _ _
  refine ww_putA C hnm fl_X2_28 rfl hk (fs2 := [.ref (k + 1), .ref (k + 5), .ref (k + 6), .ref (k + 7), .ref (k + 8), .null, .int (nI 0), .int (nI 0), .int (nI 0)]) (Nat.le_of_ble_eq_true rfl) rfl dX2_init_44 (fun w11 hw11 => ?_)
  have gw11 : fr w10 w11 (k) (k + 1) := fr.up hw11 (by omega) (by omega)
  have f5 : w11 (k + 5) = ai 8 (fun _ => 0) := (gw11 _ (by omega)).trans f5
  have f6 : w11 (k + 6) = ai 8 (fun _ => 0) := (gw11 _ (by omega)).trans f6
  have f7 : w11 (k + 7) = ai 6 (fun _ => 0) := (gw11 _ (by omega)).trans f7
  have f8 : w11 (k + 8) = az 6 (fun _ => 0) := (gw11 _ (by omega)).trans f8
  have p1 := p1.fr gw11 (by omega)
  have hf : fr w w11 (k) (k + 10) := hf.tr (gw11.wide (by omega) (by omega))
  have hk : w11 (k) = ob 2 [.ref (k + 1), .ref (k + 5), .ref (k + 6), .ref (k + 7), .ref (k + 8), .null, .int (nI 0), .int (nI 0), .int (nI 0)] := by rw [hw11]; exact va_upd_self _ _ _
  refine ww_aload0 C dX2_init_47 ?_
  refine ww_bipush C (v := nI 6) dX2_init_48 (by decide) ?_
  refine ww_newI C (m0 := 6) (by decide) (by omega) (Nat.le_of_ble_eq_true rfl) (Nat.le_of_ble_eq_true rfl) dX2_init_50 (fun w12 hw12 => ?_)
  have gw12 : fr w11 w12 (k + 9) (k + 10) := fr.up hw12 (by omega) (by omega)
  have f5 : w12 (k + 5) = ai 8 (fun _ => 0) := (gw12 _ (by omega)).trans f5
  have f6 : w12 (k + 6) = ai 8 (fun _ => 0) := (gw12 _ (by omega)).trans f6
  have f7 : w12 (k + 7) = ai 6 (fun _ => 0) := (gw12 _ (by omega)).trans f7
  have f8 : w12 (k + 8) = az 6 (fun _ => 0) := (gw12 _ (by omega)).trans f8
  have hk : w12 (k) = ob 2 [.ref (k + 1), .ref (k + 5), .ref (k + 6), .ref (k + 7), .ref (k + 8), .null, .int (nI 0), .int (nI 0), .int (nI 0)] := (gw12 _ (by omega)).trans hk
  have p1 := p1.fr gw12 (by omega)
  have hf : fr w w12 (k) (k + 10) := hf.tr (gw12.wide (by omega) (by omega))
  have f9 : w12 (k + 9) = ai 6 (fun _ => 0) := by rw [hw12]; exact va_upd_self _ _ _
  refine ww_putA C hnm fl_X2_32 rfl hk (fs2 := [.ref (k + 1), .ref (k + 5), .ref (k + 6), .ref (k + 7), .ref (k + 8), .ref (k + 9), .int (nI 0), .int (nI 0), .int (nI 0)]) (Nat.le_of_ble_eq_true rfl) rfl dX2_init_52 (fun w13 hw13 => ?_)
  have gw13 : fr w12 w13 (k) (k + 1) := fr.up hw13 (by omega) (by omega)
  have f5 : w13 (k + 5) = ai 8 (fun _ => 0) := (gw13 _ (by omega)).trans f5
  have f6 : w13 (k + 6) = ai 8 (fun _ => 0) := (gw13 _ (by omega)).trans f6
  have f7 : w13 (k + 7) = ai 6 (fun _ => 0) := (gw13 _ (by omega)).trans f7
  have f8 : w13 (k + 8) = az 6 (fun _ => 0) := (gw13 _ (by omega)).trans f8
  have f9 : w13 (k + 9) = ai 6 (fun _ => 0) := (gw13 _ (by omega)).trans f9
  have p1 := p1.fr gw13 (by omega)
  have hf : fr w w13 (k) (k + 10) := hf.tr (gw13.wide (by omega) (by omega))
  have hk : w13 (k) = ob 2 [.ref (k + 1), .ref (k + 5), .ref (k + 6), .ref (k + 7), .ref (k + 8), .ref (k + 9), .int (nI 0), .int (nI 0), .int (nI 0)] := by rw [hw13]; exact va_upd_self _ _ _
  have hH : HR w13 k (fun _ => 0) (fun _ => 0) (fun _ => 0) 0 (fun _ => 0) (fun _ => 0) (fun _ => 0) (fun _ => 0) (fun _ => 0) 0 0 0 := ⟨hk, p1, f5, f6, f7, f8, f9, fun _ => Nat.zero_le _, fun _ => Nat.zero_le _, fun _ => Nat.zero_le _, fun _ => Nat.zero_le _, fun _ => Nat.zero_le _, by decide, by decide, by decide⟩
  refine ww_aload0 C dX2_init_55 ?_
  refine ww_cV00q C hH.1 rfl (c_hillEmpty g (k + 10) w13 hH) kV_X2_35 ⟨Nat.le_of_ble_eq_true rfl, Nat.le_of_ble_eq_true rfl⟩ ⟨rfl, rfl⟩ ⟨Nat.le_of_ble_eq_true rfl, Nat.le_of_ble_eq_true rfl⟩ (Nat.le_of_ble_eq_true rfl) dX2_init_56 (fun w0 hw0 => ?_)
  obtain ⟨hH0, hf0⟩ := hw0
  exact ww_rvq C dX2_init_59 rfl ⟨Nat.le_of_ble_eq_true rfl, Nat.le_of_ble_eq_true rfl⟩ ⟨hH0, hf.tr hf0⟩
