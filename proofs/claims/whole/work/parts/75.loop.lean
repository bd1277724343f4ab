section LOOP
variable {g : Gx} {p : Program} {e : Env} {s : State} {m : MethodId} {below : List Frame} {meth : Method} {c : Code} {b L : Nat} {xs : Nat → Int32} {w : Wd} {i : Nat}
theorem wl_exit (A : LF g p s m meth c b L xs) : WL g p e s m below meth c b w (833) (i) ([]) := by
  obtain ⟨⟨hx, hb, hr, hml, hown, hts, hX, hbl, hlk, hgv⟩, hK, hbs, hL⟩ := A
  intro H locs ls hH hS hl
  refine va_forget (fun q hq => by have h9 : g.2.2.2.1 ≤ q.base := hS.2.2 q hq; omega) ?_
  refine lv_iconst (v := 1) hx hb dL_law_833 (by decide) ?_
  exact lw_ret hx hb hr hlk dL_law_834
theorem wl_head (A : LF g p s m meth c b L xs) (hib : i ≤ 2560) (kx : WL g p e s m below meth c b w (833) (i) ([])) (kf : i + 5 ≤ L → WL g p e s m below meth c b w (26) (i) ([])) : WL g p e s m below meth c b w (18) (i) ([]) := by
  obtain ⟨⟨hx, hb, hr, hml, hown, hts, hX, hbl, hlk, hgv⟩, hK, hbs, hL⟩ := A
  intro H locs ls hH hS hl
  have hbA : ¬ gA g b := by unfold gA; omega
  refine lv_iload_n hx hb dL_law_18 rfl (lv_at hl 3 rfl) ?_
  refine lv_aload_n hx hb dL_law_19 rfl (lv_at hl 0 rfl) ?_
  refine va_slen hx hb hX hbl hbA hS dL_law_20 ?_
  refine lv_iconst (v := nI 5) hx hb dL_law_21 (by decide) ?_
  refine lv_isub hx hb dL_law_22 ?_
  refine lv_icmp_gt (tgt := 833) hx hb dL_law_23 (by decide) (fun _ => kx H locs ls hH hS hl) (fun h => ?_)
  have hle : i + 5 ≤ L := by
    apply Classical.byContradiction
    intro hc
    apply h
    rw [Int32.lt_iff_toInt_lt]
    show (nI L - nI 5).toInt < (nI i).toInt
    rw [pk_sub_toInt (by omega) (by decide), nI_toInt (by omega)]
    omega
  have := kf hle H locs ls hH hS hl
  exact this
theorem wl_sel (A : LF g p s m meth c b L xs) (hi : i + 5 ≤ L) (kk : WL g p e s m below meth c b w (32) (i) ([.int (xs i &&& nI 31)])) : WL g p e s m below meth c b w (26) (i) ([]) := by
  obtain ⟨⟨hx, hb, hr, hml, hown, hts, hX, hbl, hlk, hgv⟩, hK, hbs, hL⟩ := A
  intro H locs ls hH hS hl
  have hbA : ¬ gA g b := by unfold gA; omega
  refine lv_aload_n hx hb dL_law_26 rfl (lv_at hl 0 rfl) ?_
  refine lv_iload_n hx hb dL_law_27 rfl (lv_at hl 3 rfl) ?_
  refine va_sld hx hb hX hbl hbA hS (vi_N (show i < L by omega) (by omega)) dL_law_28 ?_
  rw [cl_N (show i < L by omega) (by omega)]
  refine lv_bipush (v := nI 31) hx hb dL_law_29 (by decide) ?_
  refine lv_iand hx hb dL_law_31 ?_
  exact kk H locs ls hH hS hl
theorem wl_tin (A : LF g p s m meth c b L xs) {a : Int32} {off : Int} {tgt : Nat} (h1 : ¬ a.toInt < 0) (h2 : ¬ 23 < a.toInt) (ho : (#[112, 175, 188, 201, 214, 247, 280, 313, 346, 369, 402, 435, 468, 501, 524, 567, 590, 603, 637, 650, 693, 746, 759, 772] : Array Int)[(a.toInt - 0).toNat]? = some off) (ht : ((32 : Nat) : Int) + off = (tgt : Int)) (kk : WL g p e s m below meth c b w (tgt) (i) ([])) : WL g p e s m below meth c b w (32) (i) ([.int a]) := by
  obtain ⟨⟨hx, hb, hr, hml, hown, hts, hX, hbl, hlk, hgv⟩, hK, hbs, hL⟩ := A
  intro H locs ls hH hS hl
  exact lv_tableIn hx hb dL_law_32 h1 h2 ho ht (kk H locs ls hH hS hl)
theorem wl_tout (A : LF g p s m meth c b L xs) {a : Int32} (h1 : a.toInt < 0 ∨ 23 < a.toInt) (kk : WL g p e s m below meth c b w (827) (i) ([])) : WL g p e s m below meth c b w (32) (i) ([.int a]) := by
  obtain ⟨⟨hx, hb, hr, hml, hown, hts, hX, hbl, hlk, hgv⟩, hK, hbs, hL⟩ := A
  intro H locs ls hH hS hl
  exact lv_tableOut (tgt := 827) hx hb dL_law_32 h1 (by decide) (kk H locs ls hH hS hl)
theorem law_body (A : LF g p s m meth c b L xs) (hi : i + 5 ≤ L) (hI : Iv w) (kk : ∀ w2, Iv w2 → WL g p e s m below meth c b w2 (827) (i) ([])) : WL g p e s m below meth c b w (26) (i) ([]) := by
  refine wl_sel A hi ?_
  generalize xs i &&& nI 31 = d
  by_cases e0 : d = nI 0
  · subst e0
    exact wl_tin A (tgt := 144) (by decide) (by decide) rfl (by decide) (lc_write A hi hI kk)
  · skip
    by_cases e1 : d = nI 1
    · subst e1
      exact wl_tin A (tgt := 207) (by decide) (by decide) rfl (by decide) (lc_wipe A hi hI kk)
    · skip
      by_cases e2 : d = nI 2
      · subst e2
        exact wl_tin A (tgt := 220) (by decide) (by decide) rfl (by decide) (lc_fault A hi hI kk)
      · skip
        by_cases e3 : d = nI 3
        · subst e3
          exact wl_tin A (tgt := 233) (by decide) (by decide) rfl (by decide) (lc_lay A hi hI kk)
        · skip
          by_cases e4 : d = nI 4
          · subst e4
            exact wl_tin A (tgt := 246) (by decide) (by decide) rfl (by decide) (lc_person A hi hI kk)
          · skip
            by_cases e5 : d = nI 5
            · subst e5
              exact wl_tin A (tgt := 279) (by decide) (by decide) rfl (by decide) (lc_said A hi hI kk)
            · skip
              by_cases e6 : d = nI 6
              · subst e6
                exact wl_tin A (tgt := 312) (by decide) (by decide) rfl (by decide) (lc_deed A hi hI kk)
              · skip
                by_cases e7 : d = nI 7
                · subst e7
                  exact wl_tin A (tgt := 345) (by decide) (by decide) rfl (by decide) (lc_kind A hi hI kk)
                · skip
                  by_cases e8 : d = nI 8
                  · subst e8
                    exact wl_tin A (tgt := 378) (by decide) (by decide) rfl (by decide) (lc_cry A hi hI kk)
                  · skip
                    by_cases e9 : d = nI 9
                    · subst e9
                      exact wl_tin A (tgt := 401) (by decide) (by decide) rfl (by decide) (lc_warn A hi hI kk)
                    · skip
                      by_cases e10 : d = nI 10
                      · subst e10
                        exact wl_tin A (tgt := 434) (by decide) (by decide) rfl (by decide) (lc_called A hi hI kk)
                      · skip
                        by_cases e11 : d = nI 11
                        · subst e11
                          exact wl_tin A (tgt := 467) (by decide) (by decide) rfl (by decide) (lc_greet A hi hI kk)
                        · skip
                          by_cases e12 : d = nI 12
                          · subst e12
                            exact wl_tin A (tgt := 500) (by decide) (by decide) rfl (by decide) (lc_shortCall A hi hI kk)
                          · skip
                            by_cases e13 : d = nI 13
                            · subst e13
                              exact wl_tin A (tgt := 533) (by decide) (by decide) rfl (by decide) (lc_allShort A hi hI kk)
                            · skip
                              by_cases e14 : d = nI 14
                              · subst e14
                                exact wl_tin A (tgt := 556) (by decide) (by decide) rfl (by decide) (lc_apart A hi hI kk)
                              · skip
                                by_cases e15 : d = nI 15
                                · subst e15
                                  exact wl_tin A (tgt := 599) (by decide) (by decide) rfl (by decide) (lc_hear A hi hI kk)
                                · skip
                                  by_cases e16 : d = nI 16
                                  · subst e16
                                    exact wl_tin A (tgt := 622) (by decide) (by decide) rfl (by decide) (lc_forget A hi hI kk)
                                  · skip
                                    by_cases e17 : d = nI 17
                                    · subst e17
                                      exact wl_tin A (tgt := 635) (by decide) (by decide) rfl (by decide) (lc_odds A hi hI kk)
                                    · skip
                                      by_cases e18 : d = nI 18
                                      · subst e18
                                        exact wl_tin A (tgt := 669) (by decide) (by decide) rfl (by decide) (lc_meant A hi hI kk)
                                      · skip
                                        by_cases e19 : d = nI 19
                                        · subst e19
                                          exact wl_tin A (tgt := 682) (by decide) (by decide) rfl (by decide) (lc_years A hi hI kk)
                                        · skip
                                          by_cases e20 : d = nI 20
                                          · subst e20
                                            exact wl_tin A (tgt := 725) (by decide) (by decide) rfl (by decide) (lc_then A hi hI kk)
                                          · skip
                                            by_cases e21 : d = nI 21
                                            · subst e21
                                              exact wl_tin A (tgt := 778) (by decide) (by decide) rfl (by decide) (lc_keep A hi hI kk)
                                            · skip
                                              by_cases e22 : d = nI 22
                                              · subst e22
                                                exact wl_tin A (tgt := 791) (by decide) (by decide) rfl (by decide) (lc_back A hi hI kk)
                                              · skip
                                                by_cases e23 : d = nI 23
                                                · subst e23
                                                  exact wl_tin A (tgt := 804) (by decide) (by decide) rfl (by decide) (lc_count A hi hI kk)
                                                · skip
                                                  exact wl_tout A (sw_out (m := 23) (by decide) (fun k hk => by rcases (show k = 0 ∨ k = 1 ∨ k = 2 ∨ k = 3 ∨ k = 4 ∨ k = 5 ∨ k = 6 ∨ k = 7 ∨ k = 8 ∨ k = 9 ∨ k = 10 ∨ k = 11 ∨ k = 12 ∨ k = 13 ∨ k = 14 ∨ k = 15 ∨ k = 16 ∨ k = 17 ∨ k = 18 ∨ k = 19 ∨ k = 20 ∨ k = 21 ∨ k = 22 ∨ k = 23 by omega) with rfl | rfl | rfl | rfl | rfl | rfl | rfl | rfl | rfl | rfl | rfl | rfl | rfl | rfl | rfl | rfl | rfl | rfl | rfl | rfl | rfl | rfl | rfl | rfl <;> assumption)) (kk w hI)
theorem law_loop (A : LF g p s m meth c b L xs) : ∀ (f i : Nat) (w : Wd), Iv w → i ≤ 2560 → L < i + f → WL g p e s m below meth c b w 18 i []
  | 0, i, w, hI, hib, hf => wl_head A hib (wl_exit A) (fun h => absurd h (by omega))
  | f + 1, i, w, hI, hib, hf => wl_head A hib (wl_exit A) (fun h => law_body A h hI (fun w2 h2 => wl_next A (law_loop A f (i + 5) w2 h2 (by have := A.2.2.2; omega) (by omega))))
end LOOP
theorem nests_in : ∀ w ∈ nests, w ∈ lw_tbl := by decide +kernel
theorem nests_on : ∀ w ∈ nests, w.onTables = true := by decide +kernel
theorem kz_lay : Cond.laysStatic "DeedNames" "FIRST_NAME" "[I" ∈ lw_tbl := List.mem_of_getElem? (i := 247) (by decide +kernel)
theorem kz_ini : Cond.initialized "DeedNames" ∈ lw_tbl := List.mem_of_getElem? (i := 53) (by decide +kernel)
theorem kn_X0 : Cond.instantiable RX0 2 ∈ TS := ts_of (List.mem_of_getElem? (i := 176) (by decide +kernel)) rfl
theorem kn_X1 : Cond.instantiable RX1 13 ∈ TS := ts_of (List.mem_of_getElem? (i := 199) (by decide +kernel)) rfl
theorem kn_X2 : Cond.instantiable RX2 9 ∈ TS := ts_of (List.mem_of_getElem? (i := 95) (by decide +kernel)) rfl
theorem kn_X3 : Cond.instantiable RX3 2 ∈ TS := ts_of (List.mem_of_getElem? (i := 168) (by decide +kernel)) rfl
theorem kn_X4 : Cond.instantiable RX4 4 ∈ TS := ts_of (List.mem_of_getElem? (i := 101) (by decide +kernel)) rfl
theorem kn_X5 : Cond.instantiable RX5 4 ∈ TS := ts_of (List.mem_of_getElem? (i := 73) (by decide +kernel)) rfl
theorem kn_X6 : Cond.instantiable RX6 9 ∈ TS := ts_of (List.mem_of_getElem? (i := 65) (by decide +kernel)) rfl
theorem kn_X7 : Cond.instantiable RX7 26 ∈ TS := ts_of (List.mem_of_getElem? (i := 689) (by decide +kernel)) rfl
/-- the array class of a type, as the tables have it -/
theorem arr_K {s : State} {args : Array Value} {ty : FieldType} (h : (Cond.arrayClass ty).before args s = true) : ∃ cA : ClassId, ArrOfT s cA ty ∧ s.vm.findClass ("[" ++ ty.toString) = some cA := by
  obtain ⟨cA, kA, comp, h1, h2, h3⟩ := Cond.arrayClass_spec h
  exact ⟨cA, fun n z => ⟨fun k h => (by cases h), kA, h2, comp, h3⟩, h1⟩
/-- what the law's start knows -/
theorem law_start {p : Program} {s : State} {m : MethodId} {meth : Method} {c : Code} (l : Launch) {b L : Nat} {xs : Nat → Int32} (C0 : lw_At p s m meth c b L xs) : ∃ g : Gx, g.1 = l ∧ g.2.2.2.1 = s.heap.size ∧ KK g s ∧ ZZ g s := by
  obtain ⟨hx, hb, hr, hml, hown, hts0, hX, hbl, hlocks, hgv⟩ := id C0
  have hts : ∀ w ∈ TS, w.before #[Value.ref b] s = true := fun w h => hts0 w (ts_lw h)
  obtain ⟨c0, i0, k0⟩ := u_known (C := RX0) (T := TX0) (N := 2) (n := 2) hts itX0 (hts _ kn_X0)
  obtain ⟨c1, i1, k1⟩ := u_known (C := RX1) (T := TX1) (N := 13) (n := 13) hts itX1 (hts _ kn_X1)
  obtain ⟨c2, i2, k2⟩ := u_known (C := RX2) (T := TX2) (N := 9) (n := 9) hts itX2 (hts _ kn_X2)
  obtain ⟨c3, i3, k3⟩ := u_known (C := RX3) (T := TX3) (N := 2) (n := 2) hts itX3 (hts _ kn_X3)
  obtain ⟨c4, i4, k4⟩ := u_known (C := RX4) (T := TX4) (N := 4) (n := 4) hts itX4 (hts _ kn_X4)
  obtain ⟨c5, i5, k5⟩ := u_known (C := RX5) (T := TX5) (N := 4) (n := 4) hts itX5 (hts _ kn_X5)
  obtain ⟨c6, i6, k6⟩ := u_known (C := RX6) (T := TX6) (N := 9) (n := 9) hts itX6 (hts _ kn_X6)
  obtain ⟨c7, i7, k7⟩ := u_known (C := RX7) (T := TX7) (N := 26) (n := 26) hts itX7 (hts _ kn_X7)
  obtain ⟨a0, ha0, hn0⟩ := arr_K (hts _ ka_int)
  obtain ⟨a1, ha1, hn1⟩ := arr_K (hts _ ka_boolean)
  obtain ⟨a2, ha2, hn2⟩ := arr_K (hts _ ka_byte)
  have hs := flat_of_before _ hgv
  have h1 : (Cond.arrayOf (.static "DeedNames" "FIRST_NAME" "[I") .int).before #[Value.ref b] s = true := hs _ (by decide +kernel)
  have h2 : (Cond.eq (.length (.static "DeedNames" "FIRST_NAME" "[I")) (.int 2)).before #[Value.ref b] s = true := hs _ (by decide +kernel)
  have h3 : (Cond.eq (.elem (.static "DeedNames" "FIRST_NAME" "[I") (.int 0)) (.int 0)).before #[Value.ref b] s = true := hs _ (by decide +kernel)
  have h4 : (Cond.eq (.elem (.static "DeedNames" "FIRST_NAME" "[I") (.int 1)) (.int 1)).before #[Value.ref b] s = true := hs _ (by decide +kernel)
  have hA : ∀ a : Nat, a < s.heap.size → ¬ (fun q : Nat => s.heap.size ≤ q) a := fun a h => Nat.not_le.mpr h
  obtain ⟨t0, ht0, hT⟩ := va_Tof (N := 2) (f := fun j => .int (nI j)) (A := fun q : Nat => s.heap.size ≤ q) (by decide) h1 (va_eqt h2) (fun j hj => by
    rcases (show j = 0 ∨ j = 1 by omega) with rfl | rfl
    · exact va_eqt h3
    · exact va_eqt h4) hA
  have hZ := va_Zref (A := fun q : Nat => s.heap.size ≤ q) (hts0 _ kz_lay) (hts0 _ kz_ini) ht0 hA
  refine ⟨(l, (fun k => if k = 0 then c0 else if k = 1 then c1 else if k = 2 then c2 else if k = 3 then c3 else if k = 4 then c4 else if k = 5 then c5 else if k = 6 then c6 else c7, fun k => if k = 0 then i0 else if k = 1 then i1 else if k = 2 then i2 else if k = 3 then i3 else if k = 4 then i4 else if k = 5 then i5 else if k = 6 then i6 else i7), fun k => if k = 0 then a0 else if k = 1 then a1 else a2, s.heap.size, t0), rfl, rfl, ⟨⟨?_, ?_⟩, ?_, hT⟩, hZ⟩
  · intro k q hq
    match k, hq with
    | 0, hq => cases hq; exact k0
    | 1, hq => cases hq; exact k1
    | 2, hq => cases hq; exact k2
    | 3, hq => cases hq; exact k3
    | 4, hq => cases hq; exact k4
    | 5, hq => cases hq; exact k5
    | 6, hq => cases hq; exact k6
    | 7, hq => cases hq; exact k7
    | k + 8, hq => simp [cls_] at hq
  · intro k q hq
    match k, hq with
    | 0, hq => cases hq; exact ⟨ha0, hn0⟩
    | 1, hq => cases hq; exact ⟨ha1, hn1⟩
    | 2, hq => cases hq; exact ⟨ha2, hn2⟩
    | k + 3, hq => simp [tyl] at hq
  · exact fun w hw => va_Nw.of (nests_on w hw) (hts0 w (nests_in w hw))
