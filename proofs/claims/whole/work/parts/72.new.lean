/-- a new object's hill and names -/
def HI : Hs := (va_up (fun _ => 0) 0 0, va_up (fun _ => 0) 0 2, enS (fun _ => 0) 0 (fun j => j) 2, 1, va_up (fun _ => 0) 0 5, va_up (fun _ => 0) 0 0, filN (fun d => d) (fun _ => 0) 6, filN (fun _ => 0) (fun _ => 0) 6, filN (fun _ => 1) (fun _ => 0) 6, 4, 3, 1)
def AI : Ms := (HI.1, HI.2.1, HI.2.2.1, (fun _ => 0), 0)
def KZ : Ms := ((fun _ => 0), (fun _ => 0), (fun _ => 0), (fun _ => 0), 0)
theorem i_X6 (g : Gx) (w : Wd) (hk : w (0) = ob 6 [.null, .null, .null, .null, .null, .null, .int (nI 0), .null, .null]) : CTz g yX6_init cX6_init 1 none rk_X6 1 59 w [.ref 0] (R0q (fun w1 => CR w1 (fun _ => 0) 0 HI AI 0 KZ KZ ∧ fr w w1 0 59)) := by
  have hf : fr w w (0) (59) := fr.rf
  refine CTz.start [some (.ref 0)] (by decide +kernel) rfl (Nat.le_of_ble_eq_true rfl) (fun x C hnm hZ => ?_)
  refine ww_aload0 C dX6_init_0 ?_
  refine ww_oinit C ml_X6_1 (Nat.le_of_ble_eq_true rfl) (Nat.le_of_ble_eq_true rfl) (Nat.le_of_ble_eq_true rfl) dX6_init_1 ?_
  refine ww_aload0 C dX6_init_4 ?_
  refine ww_new C nk_X6_7 (by omega) (Nat.le_of_ble_eq_true rfl) (Nat.le_of_ble_eq_true rfl) dX6_init_5 (fun w1 hw1 => ?_)
  have gw1 : fr w w1 (1) (2) := fr.up hw1 (by omega) (by omega)
  have hk : w1 (0) = ob 6 [.null, .null, .null, .null, .null, .null, .int (nI 0), .null, .null] := (gw1 _ (by omega)).trans hk
  have hf : fr w w1 (0) (59) := hf.tr (gw1.wide (by omega) (by omega))
  have f1 : w1 (1) = ob 5 [.null, .int (nI 0), .int (nI 0), .null] := by rw [hw1]; exact va_upd_self _ _ _
  refine ww_dup C dX6_init_8 rfl ?_
  refine ww_mk C f1 (i_X5 g w1 (k := 1) f1 (by omega)) kIN_X6_9 ⟨Nat.le_of_ble_eq_true rfl, Nat.le_of_ble_eq_true rfl⟩ ⟨Nat.le_of_ble_eq_true rfl, Nat.le_of_ble_eq_true rfl⟩ (Nat.le_of_ble_eq_true rfl) dX6_init_9 (fun w2 hw2 => ?_)
  obtain ⟨p1, gw2⟩ := hw2
  have hk : w2 (0) = ob 6 [.null, .null, .null, .null, .null, .null, .int (nI 0), .null, .null] := (gw2 _ (by omega)).trans hk
  have hf : fr w w2 (0) (59) := hf.tr (gw2.wide (by omega) (by omega))
  refine ww_putO C hnm fl_X6_10 rfl hk (fs2 := [.ref (1), .null, .null, .null, .null, .null, .int (nI 0), .null, .null]) (Nat.le_of_ble_eq_true rfl) rfl dX6_init_12 (fun w3 hw3 => ?_)
  have gw3 : fr w2 w3 (0) (1) := fr.up hw3 (by omega) (by omega)
  have p1 := p1.frm gw3 (by omega)
  have hf : fr w w3 (0) (59) := hf.tr (gw3.wide (by omega) (by omega))
  have hk : w3 (0) = ob 6 [.ref (1), .null, .null, .null, .null, .null, .int (nI 0), .null, .null] := by rw [hw3]; exact va_upd_self _ _ _
  refine ww_aload0 C dX6_init_15 ?_
  refine ww_new C nk_X6_16 (by omega) (Nat.le_of_ble_eq_true rfl) (Nat.le_of_ble_eq_true rfl) dX6_init_16 (fun w4 hw4 => ?_)
  have gw4 : fr w3 w4 (4) (5) := fr.up hw4 (by omega) (by omega)
  have hk : w4 (0) = ob 6 [.ref (1), .null, .null, .null, .null, .null, .int (nI 0), .null, .null] := (gw4 _ (by omega)).trans hk
  have p1 := p1.frm gw4 (by omega)
  have hf : fr w w4 (0) (59) := hf.tr (gw4.wide (by omega) (by omega))
  have f4 : w4 (4) = ob 2 [.null, .null, .null, .null, .null, .null, .int (nI 0), .int (nI 0), .int (nI 0)] := by rw [hw4]; exact va_upd_self _ _ _
  refine ww_dup C dX6_init_19 rfl ?_
  refine ww_mkI C f4 (i_X2 g w4 (k := 4) f4 (by omega)) kI_X6_18 ⟨Nat.le_of_ble_eq_true rfl, Nat.le_of_ble_eq_true rfl⟩ ⟨Nat.le_of_ble_eq_true rfl, Nat.le_of_ble_eq_true rfl⟩ (Nat.le_of_ble_eq_true rfl) dX6_init_20 (fun w5 hw5 => ?_)
  obtain ⟨p4, gw5⟩ := hw5
  have hk : w5 (0) = ob 6 [.ref (1), .null, .null, .null, .null, .null, .int (nI 0), .null, .null] := (gw5 _ (by omega)).trans hk
  have p1 := p1.frm gw5 (by omega)
  have hf : fr w w5 (0) (59) := hf.tr (gw5.wide (by omega) (by omega))
  refine ww_putR C fl_X6_19 hk (fs2 := [.ref (1), .ref (4), .null, .null, .null, .null, .int (nI 0), .null, .null]) (Nat.le_of_ble_eq_true rfl) rfl dX6_init_23 (fun w6 hw6 => ?_)
  have gw6 : fr w5 w6 (0) (1) := fr.up hw6 (by omega) (by omega)
  have p1 := p1.frm gw6 (by omega)
  have p4 := p4.frm2 gw6 (by omega)
  have hf : fr w w6 (0) (59) := hf.tr (gw6.wide (by omega) (by omega))
  have hk : w6 (0) = ob 6 [.ref (1), .ref (4), .null, .null, .null, .null, .int (nI 0), .null, .null] := by rw [hw6]; exact va_upd_self _ _ _
  refine ww_aload0 C dX6_init_26 ?_
  refine ww_new C nk_X6_16 (by omega) (Nat.le_of_ble_eq_true rfl) (Nat.le_of_ble_eq_true rfl) dX6_init_27 (fun w7 hw7 => ?_)
  have gw7 : fr w6 w7 (14) (15) := fr.up hw7 (by omega) (by omega)
  have hk : w7 (0) = ob 6 [.ref (1), .ref (4), .null, .null, .null, .null, .int (nI 0), .null, .null] := (gw7 _ (by omega)).trans hk
  have p1 := p1.frm gw7 (by omega)
  have p4 := p4.frm2 gw7 (by omega)
  have hf : fr w w7 (0) (59) := hf.tr (gw7.wide (by omega) (by omega))
  have f14 : w7 (14) = ob 2 [.null, .null, .null, .null, .null, .null, .int (nI 0), .int (nI 0), .int (nI 0)] := by rw [hw7]; exact va_upd_self _ _ _
  refine ww_dup C dX6_init_30 rfl ?_
  refine ww_mkI C f14 (i_X2 g w7 (k := 14) f14 (by omega)) kI_X6_18 ⟨Nat.le_of_ble_eq_true rfl, Nat.le_of_ble_eq_true rfl⟩ ⟨Nat.le_of_ble_eq_true rfl, Nat.le_of_ble_eq_true rfl⟩ (Nat.le_of_ble_eq_true rfl) dX6_init_31 (fun w8 hw8 => ?_)
  obtain ⟨p14, gw8⟩ := hw8
  have hk : w8 (0) = ob 6 [.ref (1), .ref (4), .null, .null, .null, .null, .int (nI 0), .null, .null] := (gw8 _ (by omega)).trans hk
  have p1 := p1.frm gw8 (by omega)
  have p4 := p4.frm2 gw8 (by omega)
  have hf : fr w w8 (0) (59) := hf.tr (gw8.wide (by omega) (by omega))
  refine ww_putR C fl_X6_23 hk (fs2 := [.ref (1), .ref (4), .ref (14), .null, .null, .null, .int (nI 0), .null, .null]) (Nat.le_of_ble_eq_true rfl) rfl dX6_init_34 (fun w9 hw9 => ?_)
  have gw9 : fr w8 w9 (0) (1) := fr.up hw9 (by omega) (by omega)
  have p1 := p1.frm gw9 (by omega)
  have p4 := p4.frm2 gw9 (by omega)
  have p14 := p14.frm2 gw9 (by omega)
  have hf : fr w w9 (0) (59) := hf.tr (gw9.wide (by omega) (by omega))
  have hk : w9 (0) = ob 6 [.ref (1), .ref (4), .ref (14), .null, .null, .null, .int (nI 0), .null, .null] := by rw [hw9]; exact va_upd_self _ _ _
  refine ww_aload0 C dX6_init_37 ?_
  refine ww_new C nk_X6_26 (by omega) (Nat.le_of_ble_eq_true rfl) (Nat.le_of_ble_eq_true rfl) dX6_init_38 (fun w10 hw10 => ?_)
  have gw10 : fr w9 w10 (24) (25) := fr.up hw10 (by omega) (by omega)
  have hk : w10 (0) = ob 6 [.ref (1), .ref (4), .ref (14), .null, .null, .null, .int (nI 0), .null, .null] := (gw10 _ (by omega)).trans hk
  have p1 := p1.frm gw10 (by omega)
  have p4 := p4.frm2 gw10 (by omega)
  have p14 := p14.frm2 gw10 (by omega)
  have hf : fr w w10 (0) (59) := hf.tr (gw10.wide (by omega) (by omega))
  have f24 : w10 (24) = ob 3 [.null, .null] := by rw [hw10]; exact va_upd_self _ _ _
  refine ww_dup C dX6_init_41 rfl ?_
  refine ww_mk C f24 (i_X3 g w10 (k := 24) f24 (by omega)) kIN_X6_28 ⟨Nat.le_of_ble_eq_true rfl, Nat.le_of_ble_eq_true rfl⟩ ⟨Nat.le_of_ble_eq_true rfl, Nat.le_of_ble_eq_true rfl⟩ (Nat.le_of_ble_eq_true rfl) dX6_init_42 (fun w11 hw11 => ?_)
  obtain ⟨p24, gw11⟩ := hw11
  have hk : w11 (0) = ob 6 [.ref (1), .ref (4), .ref (14), .null, .null, .null, .int (nI 0), .null, .null] := (gw11 _ (by omega)).trans hk
  have p1 := p1.frm gw11 (by omega)
  have p4 := p4.frm2 gw11 (by omega)
  have p14 := p14.frm2 gw11 (by omega)
  have hf : fr w w11 (0) (59) := hf.tr (gw11.wide (by omega) (by omega))
  refine ww_putO C hnm fl_X6_29 rfl hk (fs2 := [.ref (1), .ref (4), .ref (14), .ref (24), .null, .null, .int (nI 0), .null, .null]) (Nat.le_of_ble_eq_true rfl) rfl dX6_init_45 (fun w12 hw12 => ?_)
  have gw12 : fr w11 w12 (0) (1) := fr.up hw12 (by omega) (by omega)
  have p1 := p1.frm gw12 (by omega)
  have p4 := p4.frm2 gw12 (by omega)
  have p14 := p14.frm2 gw12 (by omega)
  have p24 := p24.frm gw12 (by omega)
  have hf : fr w w12 (0) (59) := hf.tr (gw12.wide (by omega) (by omega))
  have hk : w12 (0) = ob 6 [.ref (1), .ref (4), .ref (14), .ref (24), .null, .null, .int (nI 0), .null, .null] := by rw [hw12]; exact va_upd_self _ _ _
  refine ww_aload0 C dX6_init_48 ?_
  refine ww_new C nk_X6_26 (by omega) (Nat.le_of_ble_eq_true rfl) (Nat.le_of_ble_eq_true rfl) dX6_init_49 (fun w13 hw13 => ?_)
  have gw13 : fr w12 w13 (31) (32) := fr.up hw13 (by omega) (by omega)
  have hk : w13 (0) = ob 6 [.ref (1), .ref (4), .ref (14), .ref (24), .null, .null, .int (nI 0), .null, .null] := (gw13 _ (by omega)).trans hk
  have p1 := p1.frm gw13 (by omega)
  have p4 := p4.frm2 gw13 (by omega)
  have p14 := p14.frm2 gw13 (by omega)
  have p24 := p24.frm gw13 (by omega)
  have hf : fr w w13 (0) (59) := hf.tr (gw13.wide (by omega) (by omega))
  have f31 : w13 (31) = ob 3 [.null, .null] := by rw [hw13]; exact va_upd_self _ _ _
  refine ww_dup C dX6_init_52 rfl ?_
  refine ww_mk C f31 (i_X3 g w13 (k := 31) f31 (by omega)) kIN_X6_28 ⟨Nat.le_of_ble_eq_true rfl, Nat.le_of_ble_eq_true rfl⟩ ⟨Nat.le_of_ble_eq_true rfl, Nat.le_of_ble_eq_true rfl⟩ (Nat.le_of_ble_eq_true rfl) dX6_init_53 (fun w14 hw14 => ?_)
  obtain ⟨p31, gw14⟩ := hw14
  have hk : w14 (0) = ob 6 [.ref (1), .ref (4), .ref (14), .ref (24), .null, .null, .int (nI 0), .null, .null] := (gw14 _ (by omega)).trans hk
  have p1 := p1.frm gw14 (by omega)
  have p4 := p4.frm2 gw14 (by omega)
  have p14 := p14.frm2 gw14 (by omega)
  have p24 := p24.frm gw14 (by omega)
  have hf : fr w w14 (0) (59) := hf.tr (gw14.wide (by omega) (by omega))
  refine ww_putO C hnm fl_X6_33 rfl hk (fs2 := [.ref (1), .ref (4), .ref (14), .ref (24), .ref (31), .null, .int (nI 0), .null, .null]) (Nat.le_of_ble_eq_true rfl) rfl dX6_init_56 (fun w15 hw15 => ?_)
  have gw15 : fr w14 w15 (0) (1) := fr.up hw15 (by omega) (by omega)
  have p1 := p1.frm gw15 (by omega)
  have p4 := p4.frm2 gw15 (by omega)
  have p14 := p14.frm2 gw15 (by omega)
  have p24 := p24.frm gw15 (by omega)
  have p31 := p31.frm gw15 (by omega)
  have hf : fr w w15 (0) (59) := hf.tr (gw15.wide (by omega) (by omega))
  have hk : w15 (0) = ob 6 [.ref (1), .ref (4), .ref (14), .ref (24), .ref (31), .null, .int (nI 0), .null, .null] := by rw [hw15]; exact va_upd_self _ _ _
  refine ww_aload0 C dX6_init_59 ?_
  refine ww_new C nk_X6_26 (by omega) (Nat.le_of_ble_eq_true rfl) (Nat.le_of_ble_eq_true rfl) dX6_init_60 (fun w16 hw16 => ?_)
  have gw16 : fr w15 w16 (38) (39) := fr.up hw16 (by omega) (by omega)
  have hk : w16 (0) = ob 6 [.ref (1), .ref (4), .ref (14), .ref (24), .ref (31), .null, .int (nI 0), .null, .null] := (gw16 _ (by omega)).trans hk
  have p1 := p1.frm gw16 (by omega)
  have p4 := p4.frm2 gw16 (by omega)
  have p14 := p14.frm2 gw16 (by omega)
  have p24 := p24.frm gw16 (by omega)
  have p31 := p31.frm gw16 (by omega)
  have hf : fr w w16 (0) (59) := hf.tr (gw16.wide (by omega) (by omega))
  have f38 : w16 (38) = ob 3 [.null, .null] := by rw [hw16]; exact va_upd_self _ _ _
  refine ww_dup C dX6_init_63 rfl ?_
  refine ww_mk C f38 (i_X3 g w16 (k := 38) f38 (by omega)) kIN_X6_28 ⟨Nat.le_of_ble_eq_true rfl, Nat.le_of_ble_eq_true rfl⟩ ⟨Nat.le_of_ble_eq_true rfl, Nat.le_of_ble_eq_true rfl⟩ (Nat.le_of_ble_eq_true rfl) dX6_init_64 (fun w17 hw17 => ?_)
  obtain ⟨p38, gw17⟩ := hw17
  have hk : w17 (0) = ob 6 [.ref (1), .ref (4), .ref (14), .ref (24), .ref (31), .null, .int (nI 0), .null, .null] := (gw17 _ (by omega)).trans hk
  have p1 := p1.frm gw17 (by omega)
  have p4 := p4.frm2 gw17 (by omega)
  have p14 := p14.frm2 gw17 (by omega)
  have p24 := p24.frm gw17 (by omega)
  have p31 := p31.frm gw17 (by omega)
  have hf : fr w w17 (0) (59) := hf.tr (gw17.wide (by omega) (by omega))
  refine ww_putO C hnm fl_X6_36 rfl hk (fs2 := [.ref (1), .ref (4), .ref (14), .ref (24), .ref (31), .ref (38), .int (nI 0), .null, .null]) (Nat.le_of_ble_eq_true rfl) rfl dX6_init_67 (fun w18 hw18 => ?_)
  have gw18 : fr w17 w18 (0) (1) := fr.up hw18 (by omega) (by omega)
  have p1 := p1.frm gw18 (by omega)
  have p4 := p4.frm2 gw18 (by omega)
  have p14 := p14.frm2 gw18 (by omega)
  have p24 := p24.frm gw18 (by omega)
  have p31 := p31.frm gw18 (by omega)
  have p38 := p38.frm gw18 (by omega)
  have hf : fr w w18 (0) (59) := hf.tr (gw18.wide (by omega) (by omega))
  have hk : w18 (0) = ob 6 [.ref (1), .ref (4), .ref (14), .ref (24), .ref (31), .ref (38), .int (nI 0), .null, .null] := by rw [hw18]; exact va_upd_self _ _ _
  refine ww_aload0 C dX6_init_70 ?_
  refine ww_iconst C (v := nI 0) dX6_init_71 (by decide) ?_
  refine ww_putI C fl_X6_39 hk (fs2 := [.ref (1), .ref (4), .ref (14), .ref (24), .ref (31), .ref (38), .int (nI 0), .null, .null]) (Nat.le_of_ble_eq_true rfl) rfl dX6_init_72 (fun w19 hw19 => ?_)
  have gw19 : fr w18 w19 (0) (1) := fr.up hw19 (by omega) (by omega)
  have p1 := p1.frm gw19 (by omega)
  have p4 := p4.frm2 gw19 (by omega)
  have p14 := p14.frm2 gw19 (by omega)
  have p24 := p24.frm gw19 (by omega)
  have p31 := p31.frm gw19 (by omega)
  have p38 := p38.frm gw19 (by omega)
  have hf : fr w w19 (0) (59) := hf.tr (gw19.wide (by omega) (by omega))
  have hk : w19 (0) = ob 6 [.ref (1), .ref (4), .ref (14), .ref (24), .ref (31), .ref (38), .int (nI 0), .null, .null] := by rw [hw19]; exact va_upd_self _ _ _
  refine ww_aload0 C dX6_init_75 ?_
  refine ww_new C nk_X6_43 (by omega) (Nat.le_of_ble_eq_true rfl) (Nat.le_of_ble_eq_true rfl) dX6_init_76 (fun w20 hw20 => ?_)
  have gw20 : fr w19 w20 (45) (46) := fr.up hw20 (by omega) (by omega)
  have hk : w20 (0) = ob 6 [.ref (1), .ref (4), .ref (14), .ref (24), .ref (31), .ref (38), .int (nI 0), .null, .null] := (gw20 _ (by omega)).trans hk
  have p1 := p1.frm gw20 (by omega)
  have p4 := p4.frm2 gw20 (by omega)
  have p14 := p14.frm2 gw20 (by omega)
  have p24 := p24.frm gw20 (by omega)
  have p31 := p31.frm gw20 (by omega)
  have p38 := p38.frm gw20 (by omega)
  have hf : fr w w20 (0) (59) := hf.tr (gw20.wide (by omega) (by omega))
  have f45 : w20 (45) = ob 1 [.int (nI 0), .int (nI 0), .int (nI 0), .null, .null, .null, .null, .null, .null, .null, .null, .null, .int (nI 0)] := by rw [hw20]; exact va_upd_self _ _ _
  refine ww_dup C dX6_init_79 rfl ?_
  refine ww_mk C f45 (i_X1 g w20 (k := 45) f45 (by omega)) kIN_X6_45 ⟨Nat.le_of_ble_eq_true rfl, Nat.le_of_ble_eq_true rfl⟩ ⟨Nat.le_of_ble_eq_true rfl, Nat.le_of_ble_eq_true rfl⟩ (Nat.le_of_ble_eq_true rfl) dX6_init_80 (fun w21 hw21 => ?_)
  obtain ⟨p45, gw21⟩ := hw21
  have hk : w21 (0) = ob 6 [.ref (1), .ref (4), .ref (14), .ref (24), .ref (31), .ref (38), .int (nI 0), .null, .null] := (gw21 _ (by omega)).trans hk
  have p1 := p1.frm gw21 (by omega)
  have p4 := p4.frm2 gw21 (by omega)
  have p14 := p14.frm2 gw21 (by omega)
  have p24 := p24.frm gw21 (by omega)
  have p31 := p31.frm gw21 (by omega)
  have p38 := p38.frm gw21 (by omega)
  have hf : fr w w21 (0) (59) := hf.tr (gw21.wide (by omega) (by omega))
  refine ww_putO C hnm fl_X6_46 rfl hk (fs2 := [.ref (1), .ref (4), .ref (14), .ref (24), .ref (31), .ref (38), .int (nI 0), .ref (45), .null]) (Nat.le_of_ble_eq_true rfl) rfl dX6_init_83 (fun w22 hw22 => ?_)
  have gw22 : fr w21 w22 (0) (1) := fr.up hw22 (by omega) (by omega)
  have p1 := p1.frm gw22 (by omega)
  have p4 := p4.frm2 gw22 (by omega)
  have p14 := p14.frm2 gw22 (by omega)
  have p24 := p24.frm gw22 (by omega)
  have p31 := p31.frm gw22 (by omega)
  have p38 := p38.frm gw22 (by omega)
  have p45 := p45.frm gw22 (by omega)
  have hf : fr w w22 (0) (59) := hf.tr (gw22.wide (by omega) (by omega))
  have hk : w22 (0) = ob 6 [.ref (1), .ref (4), .ref (14), .ref (24), .ref (31), .ref (38), .int (nI 0), .ref (45), .null] := by rw [hw22]; exact va_upd_self _ _ _
  refine ww_aload0 C dX6_init_86 ?_
  refine ww_new C nk_X6_50 (by omega) (Nat.le_of_ble_eq_true rfl) (Nat.le_of_ble_eq_true rfl) dX6_init_87 (fun w23 hw23 => ?_)
  have gw23 : fr w22 w23 (55) (56) := fr.up hw23 (by omega) (by omega)
  have hk : w23 (0) = ob 6 [.ref (1), .ref (4), .ref (14), .ref (24), .ref (31), .ref (38), .int (nI 0), .ref (45), .null] := (gw23 _ (by omega)).trans hk
  have p1 := p1.frm gw23 (by omega)
  have p4 := p4.frm2 gw23 (by omega)
  have p14 := p14.frm2 gw23 (by omega)
  have p24 := p24.frm gw23 (by omega)
  have p31 := p31.frm gw23 (by omega)
  have p38 := p38.frm gw23 (by omega)
  have p45 := p45.frm gw23 (by omega)
  have hf : fr w w23 (0) (59) := hf.tr (gw23.wide (by omega) (by omega))
  have f55 : w23 (55) = ob 4 [.null, .null, .null, .int (nI 0)] := by rw [hw23]; exact va_upd_self _ _ _
  refine ww_dup C dX6_init_90 rfl ?_
  refine ww_mk C f55 (i_X4 g w23 (k := 55) f55 (by omega)) kIN_X6_52 ⟨Nat.le_of_ble_eq_true rfl, Nat.le_of_ble_eq_true rfl⟩ ⟨Nat.le_of_ble_eq_true rfl, Nat.le_of_ble_eq_true rfl⟩ (Nat.le_of_ble_eq_true rfl) dX6_init_91 (fun w24 hw24 => ?_)
  obtain ⟨p55, gw24⟩ := hw24
  have hk : w24 (0) = ob 6 [.ref (1), .ref (4), .ref (14), .ref (24), .ref (31), .ref (38), .int (nI 0), .ref (45), .null] := (gw24 _ (by omega)).trans hk
  have p1 := p1.frm gw24 (by omega)
  have p4 := p4.frm2 gw24 (by omega)
  have p14 := p14.frm2 gw24 (by omega)
  have p24 := p24.frm gw24 (by omega)
  have p31 := p31.frm gw24 (by omega)
  have p38 := p38.frm gw24 (by omega)
  have p45 := p45.frm gw24 (by omega)
  have hf : fr w w24 (0) (59) := hf.tr (gw24.wide (by omega) (by omega))
  refine ww_putO C hnm fl_X6_53 rfl hk (fs2 := [.ref (1), .ref (4), .ref (14), .ref (24), .ref (31), .ref (38), .int (nI 0), .ref (45), .ref (55)]) (Nat.le_of_ble_eq_true rfl) rfl dX6_init_94 (fun w25 hw25 => ?_)
  have gw25 : fr w24 w25 (0) (1) := fr.up hw25 (by omega) (by omega)
  have p1 := p1.frm gw25 (by omega)
  have p4 := p4.frm2 gw25 (by omega)
  have p14 := p14.frm2 gw25 (by omega)
  have p24 := p24.frm gw25 (by omega)
  have p31 := p31.frm gw25 (by omega)
  have p38 := p38.frm gw25 (by omega)
  have p45 := p45.frm gw25 (by omega)
  have p55 := p55.fr gw25 (by omega)
  have hf : fr w w25 (0) (59) := hf.tr (gw25.wide (by omega) (by omega))
  have hk : w25 (0) = ob 6 [.ref (1), .ref (4), .ref (14), .ref (24), .ref (31), .ref (38), .int (nI 0), .ref (45), .ref (55)] := by rw [hw25]; exact va_upd_self _ _ _
  refine ww_aload0 C dX6_init_97 ?_
  refine ww_getf C fl_X6_19 hk rfl dX6_init_98 ?_
  refine ww_iconst C (v := nI 0) dX6_init_101 (by decide) ?_
  refine ww_first C hZ ks_first dX6_init_102 ?_
  refine ww_first C hZ ks_first dX6_init_105 ?_
  refine ww_slen C dX6_init_108 ?_
  refine ww_iconst C (v := nI 5) dX6_init_109 (by decide) ?_
  refine ww_iconst C (v := nI 0) dX6_init_110 (by decide) ?_
  refine ww_cV5vq C p4.1 rfl (c_settle g 59 w25 p4 (r := 1000) (len := 2) (t := 0) (sz := 2) (x0 := 5) (r0 := 0) (F := fun j => j) (by decide) (by decide) (Or.inl ⟨rfl, rfl, rfl⟩) (Or.inr (by decide)) (by decide) (by decide) (fun j hj => by omega) (by decide) (by decide)) kV_X6_61 ⟨Nat.le_of_ble_eq_true rfl, Nat.le_of_ble_eq_true rfl⟩ ⟨rfl, rfl⟩ ⟨Nat.le_of_ble_eq_true rfl, Nat.le_of_ble_eq_true rfl⟩ (Nat.le_of_ble_eq_true rfl) dX6_init_111 (fun w0 hw0 => ?_)
  obtain ⟨hH0, hf0⟩ := hw0
  have q4 : HS w0 4 HI := hH0
  have hk := (hf0 0 (by omega)).trans hk
  have p1 := p1.frm hf0 (by omega)
  have p14 := p14.frm2 hf0 (by omega)
  have p24 := p24.frm hf0 (by omega)
  have p31 := p31.frm hf0 (by omega)
  have p38 := p38.frm hf0 (by omega)
  have p45 := p45.frm hf0 (by omega)
  have p55 := p55.fr hf0 (by omega)
  have hf : fr w w0 0 59 := hf.tr (hf0.wide (by omega) (by omega))
  refine ww_pop C dX6_init_114 rfl ?_
  refine ww_aload0 C dX6_init_115 ?_
  refine ww_getf C fl_X6_29 hk rfl dX6_init_116 ?_
  refine ww_getf C fl_X6_65 p24.1 rfl dX6_init_119 ?_
  refine ww_aload0 C dX6_init_122 ?_
  refine ww_getf C fl_X6_19 hk rfl dX6_init_123 ?_
  refine ww_getf C fl_X6_68 q4.1 rfl dX6_init_126 ?_
  obtain ⟨u1, hN1, hfu, hc1⟩ := c_copyFrom g 59 w0 p24.2.1 q4.2.1 (by omega)
  refine ww_cV10 C p24.2.1.1 rfl (hc1) kV_X6_69 ⟨Nat.le_of_ble_eq_true rfl, Nat.le_of_ble_eq_true rfl⟩ ⟨rfl, rfl⟩ ⟨Nat.le_of_ble_eq_true rfl, Nat.le_of_ble_eq_true rfl⟩ (Nat.le_of_ble_eq_true rfl) dX6_init_129 ?_
  have hk := (hfu 0 (by omega)).trans hk
  have p1 := p1.frm hfu (by omega)
  have q4 := q4.frm2 hfu (by omega)
  have p14 := p14.frm2 hfu (by omega)
  have q24 : MYs u1 24 AI HI.2.2.2.1 := MY.setN p24 hN1 hfu
  have p31 := p31.frm hfu (by omega)
  have p38 := p38.frm hfu (by omega)
  have p45 := p45.frm hfu (by omega)
  have p55 := p55.fr hfu (by omega)
  have hf : fr w u1 0 59 := hf.tr (hfu.wide (by omega) (by omega))
  exact ww_rvq C dX6_init_132 rfl ⟨Nat.le_of_ble_eq_true rfl, Nat.le_of_ble_eq_true rfl⟩ ⟨⟨4, 14, 0, _, _, 0, 0, ⟨Or.inl ⟨rfl, rfl⟩, hk, p1, q4, p14, q24, p31, p38, ⟨_, _, _, _, _, _, _, _, _, _, _, _, _, p45⟩, ⟨_, _, _, _, p55⟩, by decide⟩, fun e => absurd e (by decide), fun e => absurd e (by decide)⟩, hf⟩
theorem new_rl {B B1 B2 B3 B4 Z : Nat → Nat → Nat} (hNH : NH B (fun _ _ => 0) 0) (e1 : B1 1 = va_up (B 1) 0 1) (o1 : ∀ b, ¬ b = 1 → B1 b = B b) (e2 : B2 3 = va_up (B1 3) 0 2) (o2 : ∀ b, ¬ b = 3 → B2 b = B1 b) (e3 : B3 4 = va_up (B2 4) 1 1) (o3 : ∀ b, ¬ b = 4 → B3 b = B2 b) (e4 : B4 5 = va_up (B3 5) 0 5) (o4 : ∀ b, ¬ b = 5 → B4 b = B3 b) (hZo : ∀ b, ¬ b = 11 → ¬ b = 12 → ¬ b = 13 → ¬ b = 14 → Z b = B4 b) (hZ1 : ∀ j, j < 8 → Z 11 j = B4 2 j ∧ Z 12 j = B4 3 j ∧ ∀ e, e < 6 → Z 13 (10 * j + e) = B4 4 (6 * j + e)) (hZ14 : Z 14 0 = 0) : Rl Z (fun _ => 0) 0 HI AI 0 KZ KZ := by
  obtain ⟨h1, h2, h3, h4, h5, h6, h7, h8⟩ := hNH
  have zr : ∀ b, b < 11 → Z b = B4 b := fun b hb => hZo b (by omega) (by omega) (by omega) (by omega)
  have br : ∀ b, ¬ b = 1 → ¬ b = 3 → ¬ b = 4 → ¬ b = 5 → B4 b = B b := fun b a1 a3 a4 a5 => (o4 b a5).trans ((o3 b a4).trans ((o2 b a3).trans (o1 b a1)))
  refine ⟨by decide, by decide, fun j hj => absurd hj (Nat.not_lt_zero j), ⟨?_, fun i hi => ?_, fun d hd => ?_, ?_, ?_, ?_⟩, fun i hi => ?_, ⟨hZ14, fun j hj => absurd hj (Nat.not_lt_zero j)⟩, fun e => absurd e (by decide), fun e => absurd e (by decide)⟩
  · rw [zr 1 (by decide), o4 1 (by decide), o3 1 (by decide), o2 1 (by decide)]
    exact up_at e1 rfl
  · have hi : i = 0 := by have hi : i < 1 := hi; omega
    subst hi
    rw [zr 5 (by decide), zr 6 (by decide), br 6 (by decide) (by decide) (by decide) (by decide), h1 6 (by decide) (by decide) (by decide) (by decide) (by decide)]
    exact ⟨up_at e4 rfl, rfl⟩
  · obtain ⟨a, b, c⟩ := h3 d hd
    rw [show 6 * 0 + d = d by omega] at a b c
    have f1 : HI.2.2.2.2.2.2.1 d = d := filN_lt (f := fun d => d) (h := fun _ => 0) hd
    have f2 : HI.2.2.2.2.2.2.2.1 d = 0 := filN_lt (f := fun _ => 0) (h := fun _ => 0) hd
    have f3 : HI.2.2.2.2.2.2.2.2.1 d = 1 := filN_lt (f := fun _ => 1) (h := fun _ => 0) hd
    rw [f1, f2, f3, zr 7 (by decide), zr 8 (by decide), zr 9 (by decide), br 7 (by decide) (by decide) (by decide) (by decide), br 8 (by decide) (by decide) (by decide) (by decide), br 9 (by decide) (by decide) (by decide) (by decide)]
    exact ⟨a, b, c⟩
  · rw [zr 10 (by decide), br 10 (by decide) (by decide) (by decide) (by decide)]; exact h5
  · rw [zr 10 (by decide), br 10 (by decide) (by decide) (by decide) (by decide)]; exact h6
  · rw [zr 10 (by decide), br 10 (by decide) (by decide) (by decide) (by decide)]; exact h7
  · have hi : i = 0 := by have hi : i < 1 := hi; omega
    subst hi
    obtain ⟨a, b, c⟩ := hZ1 0 (by decide)
    refine ⟨?_, ?_, fun q hq => ?_⟩
    · show Z 11 0 = 0
      rw [a, br 2 (by decide) (by decide) (by decide) (by decide), h1 2 (by decide) (by decide) (by decide) (by decide) (by decide)]
    · show Z 12 0 = 2
      rw [b, o4 3 (by decide), o3 3 (by decide)]
      exact up_at e2 rfl
    · have hq : q < 2 := hq
      show Z 13 (10 * 0 + q) = enS (fun _ => 0) 0 (fun j => j) 2 (10 * 0 + q)
      rw [c q (by omega), o4 4 (by decide)]
      rcases (show q = 0 ∨ q = 1 by omega) with rfl | rfl
      · show B3 4 0 = 0
        rw [up_no e3 (by decide), o2 4 (by decide), o1 4 (by decide), h1 4 (by decide) (by decide) (by decide) (by decide) (by decide)]
      · show B3 4 1 = 1
        exact up_at e3 rfl
theorem i_X7 (g : Gx) (w : Wd) (hk : w (59) = ob 7 [.int (nI 0), .null, .null, .null, .null, .null, .null, .null, .null, .null, .null, .null, .null, .null, .null, .null, .null, .int (nI 0), .int (nI 0), .null, .null, .null, .null, .null, .null, .null]) : CT g yX7_init cX7_init 1 none rk_X7 60 83 w [.ref 59] (R0q (fun w1 => MR w1 (fun _ => 0) 0 HI AI 0 KZ KZ ∧ fr w w1 59 83)) := by
  have hf : fr w w (59) (83) := fr.rf
  refine CT.start [some (.ref 59)] (by decide +kernel) rfl (Nat.le_of_ble_eq_true rfl) (fun x C hnm => ?_)
  refine ww_aload0 C dX7_init_0 ?_
  refine ww_oinit C ml_X7_1 (Nat.le_of_ble_eq_true rfl) (Nat.le_of_ble_eq_true rfl) (Nat.le_of_ble_eq_true rfl) dX7_init_1 ?_
  refine ww_aload0 C dX7_init_4 ?_
  refine ww_sipush C (v := nI 400) dX7_init_5 (by decide) ?_
  refine ww_newI C (m0 := 400) (by decide) (by omega) (Nat.le_of_ble_eq_true rfl) (Nat.le_of_ble_eq_true rfl) dX7_init_8 (fun w1 hw1 => ?_)
  have gw1 : fr w w1 (60) (61) := fr.up hw1 (by omega) (by omega)
  have hk : w1 (59) = ob 7 [.int (nI 0), .null, .null, .null, .null, .null, .null, .null, .null, .null, .null, .null, .null, .null, .null, .null, .null, .int (nI 0), .int (nI 0), .null, .null, .null, .null, .null, .null, .null] := (gw1 _ (by omega)).trans hk
  have hf : fr w w1 (59) (83) := hf.tr (gw1.wide (by omega) (by omega))
  have f1 : w1 (60) = ai 400 (fun _ => 0) := by rw [hw1]; exact va_upd_self _ _ _
  refine ww_putA C hnm fl_X7_7 rfl hk (fs2 := [.int (nI 0), .ref (60), .null, .null, .null, .null, .null, .null, .null, .null, .null, .null, .null, .null, .null, .null, .null, .int (nI 0), .int (nI 0), .null, .null, .null, .null, .null, .null, .null]) (Nat.le_of_ble_eq_true rfl) rfl dX7_init_10 (fun w2 hw2 => ?_)
  have gw2 : fr w1 w2 (59) (60) := fr.up hw2 (by omega) (by omega)
  have f1 : w2 (60) = ai 400 (fun _ => 0) := (gw2 _ (by omega)).trans f1
  have hf : fr w w2 (59) (83) := hf.tr (gw2.wide (by omega) (by omega))
  have hk : w2 (59) = ob 7 [.int (nI 0), .ref (60), .null, .null, .null, .null, .null, .null, .null, .null, .null, .null, .null, .null, .null, .null, .null, .int (nI 0), .int (nI 0), .null, .null, .null, .null, .null, .null, .null] := by rw [hw2]; exact va_upd_self _ _ _
  refine ww_aload0 C dX7_init_13 ?_
  refine ww_iconst C (v := nI 2) dX7_init_14 (by decide) ?_
  refine ww_newI C (m0 := 2) (by decide) (by omega) (Nat.le_of_ble_eq_true rfl) (Nat.le_of_ble_eq_true rfl) dX7_init_15 (fun w3 hw3 => ?_)
  have gw3 : fr w2 w3 (61) (62) := fr.up hw3 (by omega) (by omega)
  have f1 : w3 (60) = ai 400 (fun _ => 0) := (gw3 _ (by omega)).trans f1
  have hk : w3 (59) = ob 7 [.int (nI 0), .ref (60), .null, .null, .null, .null, .null, .null, .null, .null, .null, .null, .null, .null, .null, .null, .null, .int (nI 0), .int (nI 0), .null, .null, .null, .null, .null, .null, .null] := (gw3 _ (by omega)).trans hk
  have hf : fr w w3 (59) (83) := hf.tr (gw3.wide (by omega) (by omega))
  have f2 : w3 (61) = ai 2 (fun _ => 0) := by rw [hw3]; exact va_upd_self _ _ _
  refine ww_putA C hnm fl_X7_13 rfl hk (fs2 := [.int (nI 0), .ref (60), .ref (61), .null, .null, .null, .null, .null, .null, .null, .null, .null, .null, .null, .null, .null, .null, .int (nI 0), .int (nI 0), .null, .null, .null, .null, .null, .null, .null]) (Nat.le_of_ble_eq_true rfl) rfl dX7_init_17 (fun w4 hw4 => ?_)
  have gw4 : fr w3 w4 (59) (60) := fr.up hw4 (by omega) (by omega)
  have f1 : w4 (60) = ai 400 (fun _ => 0) := (gw4 _ (by omega)).trans f1
  have f2 : w4 (61) = ai 2 (fun _ => 0) := (gw4 _ (by omega)).trans f2
  have hf : fr w w4 (59) (83) := hf.tr (gw4.wide (by omega) (by omega))
  have hk : w4 (59) = ob 7 [.int (nI 0), .ref (60), .ref (61), .null, .null, .null, .null, .null, .null, .null, .null, .null, .null, .null, .null, .null, .null, .int (nI 0), .int (nI 0), .null, .null, .null, .null, .null, .null, .null] := by rw [hw4]; exact va_upd_self _ _ _
  refine ww_aload0 C dX7_init_20 ?_
  refine ww_bipush C (v := nI 16) dX7_init_21 (by decide) ?_
  refine ww_newI C (m0 := 16) (by decide) (by omega) (Nat.le_of_ble_eq_true rfl) (Nat.le_of_ble_eq_true rfl) dX7_init_23 (fun w5 hw5 => ?_)
  have gw5 : fr w4 w5 (62) (63) := fr.up hw5 (by omega) (by omega)
  have f1 : w5 (60) = ai 400 (fun _ => 0) := (gw5 _ (by omega)).trans f1
  have f2 : w5 (61) = ai 2 (fun _ => 0) := (gw5 _ (by omega)).trans f2
  have hk : w5 (59) = ob 7 [.int (nI 0), .ref (60), .ref (61), .null, .null, .null, .null, .null, .null, .null, .null, .null, .null, .null, .null, .null, .null, .int (nI 0), .int (nI 0), .null, .null, .null, .null, .null, .null, .null] := (gw5 _ (by omega)).trans hk
  have hf : fr w w5 (59) (83) := hf.tr (gw5.wide (by omega) (by omega))
  have f3 : w5 (62) = ai 16 (fun _ => 0) := by rw [hw5]; exact va_upd_self _ _ _
  refine ww_putA C hnm fl_X7_16 rfl hk (fs2 := [.int (nI 0), .ref (60), .ref (61), .ref (62), .null, .null, .null, .null, .null, .null, .null, .null, .null, .null, .null, .null, .null, .int (nI 0), .int (nI 0), .null, .null, .null, .null, .null, .null, .null]) (Nat.le_of_ble_eq_true rfl) rfl dX7_init_25 (fun w6 hw6 => ?_)
  have gw6 : fr w5 w6 (59) (60) := fr.up hw6 (by omega) (by omega)
  have f1 : w6 (60) = ai 400 (fun _ => 0) := (gw6 _ (by omega)).trans f1
  have f2 : w6 (61) = ai 2 (fun _ => 0) := (gw6 _ (by omega)).trans f2
  have f3 : w6 (62) = ai 16 (fun _ => 0) := (gw6 _ (by omega)).trans f3
  have hf : fr w w6 (59) (83) := hf.tr (gw6.wide (by omega) (by omega))
  have hk : w6 (59) = ob 7 [.int (nI 0), .ref (60), .ref (61), .ref (62), .null, .null, .null, .null, .null, .null, .null, .null, .null, .null, .null, .null, .null, .int (nI 0), .int (nI 0), .null, .null, .null, .null, .null, .null, .null] := by rw [hw6]; exact va_upd_self _ _ _
  refine ww_aload0 C dX7_init_28 ?_
  refine ww_bipush C (v := nI 16) dX7_init_29 (by decide) ?_
  refine ww_newI C (m0 := 16) (by decide) (by omega) (Nat.le_of_ble_eq_true rfl) (Nat.le_of_ble_eq_true rfl) dX7_init_31 (fun w7 hw7 => ?_)
  have gw7 : fr w6 w7 (63) (64) := fr.up hw7 (by omega) (by omega)
  have f1 : w7 (60) = ai 400 (fun _ => 0) := (gw7 _ (by omega)).trans f1
  have f2 : w7 (61) = ai 2 (fun _ => 0) := (gw7 _ (by omega)).trans f2
  have f3 : w7 (62) = ai 16 (fun _ => 0) := (gw7 _ (by omega)).trans f3
  have hk : w7 (59) = ob 7 [.int (nI 0), .ref (60), .ref (61), .ref (62), .null, .null, .null, .null, .null, .null, .null, .null, .null, .null, .null, .null, .null, .int (nI 0), .int (nI 0), .null, .null, .null, .null, .null, .null, .null] := (gw7 _ (by omega)).trans hk
  have hf : fr w w7 (59) (83) := hf.tr (gw7.wide (by omega) (by omega))
  have f4 : w7 (63) = ai 16 (fun _ => 0) := by rw [hw7]; exact va_upd_self _ _ _
  refine ww_putA C hnm fl_X7_19 rfl hk (fs2 := [.int (nI 0), .ref (60), .ref (61), .ref (62), .ref (63), .null, .null, .null, .null, .null, .null, .null, .null, .null, .null, .null, .null, .int (nI 0), .int (nI 0), .null, .null, .null, .null, .null, .null, .null]) (Nat.le_of_ble_eq_true rfl) rfl dX7_init_33 (fun w8 hw8 => ?_)
  have gw8 : fr w7 w8 (59) (60) := fr.up hw8 (by omega) (by omega)
  have f1 : w8 (60) = ai 400 (fun _ => 0) := (gw8 _ (by omega)).trans f1
  have f2 : w8 (61) = ai 2 (fun _ => 0) := (gw8 _ (by omega)).trans f2
  have f3 : w8 (62) = ai 16 (fun _ => 0) := (gw8 _ (by omega)).trans f3
  have f4 : w8 (63) = ai 16 (fun _ => 0) := (gw8 _ (by omega)).trans f4
  have hf : fr w w8 (59) (83) := hf.tr (gw8.wide (by omega) (by omega))
  have hk : w8 (59) = ob 7 [.int (nI 0), .ref (60), .ref (61), .ref (62), .ref (63), .null, .null, .null, .null, .null, .null, .null, .null, .null, .null, .null, .null, .int (nI 0), .int (nI 0), .null, .null, .null, .null, .null, .null, .null] := by rw [hw8]; exact va_upd_self _ _ _
  refine ww_aload0 C dX7_init_36 ?_
  refine ww_bipush C (v := nI 96) dX7_init_37 (by decide) ?_
  refine ww_newI C (m0 := 96) (by decide) (by omega) (Nat.le_of_ble_eq_true rfl) (Nat.le_of_ble_eq_true rfl) dX7_init_39 (fun w9 hw9 => ?_)
  have gw9 : fr w8 w9 (64) (65) := fr.up hw9 (by omega) (by omega)
  have f1 : w9 (60) = ai 400 (fun _ => 0) := (gw9 _ (by omega)).trans f1
  have f2 : w9 (61) = ai 2 (fun _ => 0) := (gw9 _ (by omega)).trans f2
  have f3 : w9 (62) = ai 16 (fun _ => 0) := (gw9 _ (by omega)).trans f3
  have f4 : w9 (63) = ai 16 (fun _ => 0) := (gw9 _ (by omega)).trans f4
  have hk : w9 (59) = ob 7 [.int (nI 0), .ref (60), .ref (61), .ref (62), .ref (63), .null, .null, .null, .null, .null, .null, .null, .null, .null, .null, .null, .null, .int (nI 0), .int (nI 0), .null, .null, .null, .null, .null, .null, .null] := (gw9 _ (by omega)).trans hk
  have hf : fr w w9 (59) (83) := hf.tr (gw9.wide (by omega) (by omega))
  have f5 : w9 (64) = ai 96 (fun _ => 0) := by rw [hw9]; exact va_upd_self _ _ _
  refine ww_putA C hnm fl_X7_22 rfl hk (fs2 := [.int (nI 0), .ref (60), .ref (61), .ref (62), .ref (63), .ref (64), .null, .null, .null, .null, .null, .null, .null, .null, .null, .null, .null, .int (nI 0), .int (nI 0), .null, .null, .null, .null, .null, .null, .null]) (Nat.le_of_ble_eq_true rfl) rfl dX7_init_41 (fun w10 hw10 => ?_)
  have gw10 : fr w9 w10 (59) (60) := fr.up hw10 (by omega) (by omega)
  have f1 : w10 (60) = ai 400 (fun _ => 0) := (gw10 _ (by omega)).trans f1
  have f2 : w10 (61) = ai 2 (fun _ => 0) := (gw10 _ (by omega)).trans f2
  have f3 : w10 (62) = ai 16 (fun _ => 0) := (gw10 _ (by omega)).trans f3
  have f4 : w10 (63) = ai 16 (fun _ => 0) := (gw10 _ (by omega)).trans f4
  have f5 : w10 (64) = ai 96 (fun _ => 0) := (gw10 _ (by omega)).trans f5
  have hf : fr w w10 (59) (83) := hf.tr (gw10.wide (by omega) (by omega))
  have hk : w10 (59) = ob 7 [.int (nI 0), .ref (60), .ref (61), .ref (62), .ref (63), .ref (64), .null, .null, .null, .null, .null, .null, .null, .null, .null, .null, .null, .int (nI 0), .int (nI 0), .null, .null, .null, .null, .null, .null, .null] := by rw [hw10]; exact va_upd_self _ _ _
  refine ww_aload0 C dX7_init_44 ?_
  refine ww_bipush C (v := nI 16) dX7_init_45 (by decide) ?_
  refine ww_newI C (m0 := 16) (by decide) (by omega) (Nat.le_of_ble_eq_true rfl) (Nat.le_of_ble_eq_true rfl) dX7_init_47 (fun w11 hw11 => ?_)
  have gw11 : fr w10 w11 (65) (66) := fr.up hw11 (by omega) (by omega)
  have f1 : w11 (60) = ai 400 (fun _ => 0) := (gw11 _ (by omega)).trans f1
  have f2 : w11 (61) = ai 2 (fun _ => 0) := (gw11 _ (by omega)).trans f2
  have f3 : w11 (62) = ai 16 (fun _ => 0) := (gw11 _ (by omega)).trans f3
  have f4 : w11 (63) = ai 16 (fun _ => 0) := (gw11 _ (by omega)).trans f4
  have f5 : w11 (64) = ai 96 (fun _ => 0) := (gw11 _ (by omega)).trans f5
  have hk : w11 (59) = ob 7 [.int (nI 0), .ref (60), .ref (61), .ref (62), .ref (63), .ref (64), .null, .null, .null, .null, .null, .null, .null, .null, .null, .null, .null, .int (nI 0), .int (nI 0), .null, .null, .null, .null, .null, .null, .null] := (gw11 _ (by omega)).trans hk
  have hf : fr w w11 (59) (83) := hf.tr (gw11.wide (by omega) (by omega))
  have f6 : w11 (65) = ai 16 (fun _ => 0) := by rw [hw11]; exact va_upd_self _ _ _
  refine ww_putA C hnm fl_X7_25 rfl hk (fs2 := [.int (nI 0), .ref (60), .ref (61), .ref (62), .ref (63), .ref (64), .ref (65), .null, .null, .null, .null, .null, .null, .null, .null, .null, .null, .int (nI 0), .int (nI 0), .null, .null, .null, .null, .null, .null, .null]) (Nat.le_of_ble_eq_true rfl) rfl dX7_init_49 (fun w12 hw12 => ?_)
  have gw12 : fr w11 w12 (59) (60) := fr.up hw12 (by omega) (by omega)
  have f1 : w12 (60) = ai 400 (fun _ => 0) := (gw12 _ (by omega)).trans f1
  have f2 : w12 (61) = ai 2 (fun _ => 0) := (gw12 _ (by omega)).trans f2
  have f3 : w12 (62) = ai 16 (fun _ => 0) := (gw12 _ (by omega)).trans f3
  have f4 : w12 (63) = ai 16 (fun _ => 0) := (gw12 _ (by omega)).trans f4
  have f5 : w12 (64) = ai 96 (fun _ => 0) := (gw12 _ (by omega)).trans f5
  have f6 : w12 (65) = ai 16 (fun _ => 0) := (gw12 _ (by omega)).trans f6
  have hf : fr w w12 (59) (83) := hf.tr (gw12.wide (by omega) (by omega))
  have hk : w12 (59) = ob 7 [.int (nI 0), .ref (60), .ref (61), .ref (62), .ref (63), .ref (64), .ref (65), .null, .null, .null, .null, .null, .null, .null, .null, .null, .null, .int (nI 0), .int (nI 0), .null, .null, .null, .null, .null, .null, .null] := by rw [hw12]; exact va_upd_self _ _ _
  refine ww_aload0 C dX7_init_52 ?_
  refine ww_bipush C (v := nI 16) dX7_init_53 (by decide) ?_
  refine ww_newI C (m0 := 16) (by decide) (by omega) (Nat.le_of_ble_eq_true rfl) (Nat.le_of_ble_eq_true rfl) dX7_init_55 (fun w13 hw13 => ?_)
  have gw13 : fr w12 w13 (66) (67) := fr.up hw13 (by omega) (by omega)
  have f1 : w13 (60) = ai 400 (fun _ => 0) := (gw13 _ (by omega)).trans f1
  have f2 : w13 (61) = ai 2 (fun _ => 0) := (gw13 _ (by omega)).trans f2
  have f3 : w13 (62) = ai 16 (fun _ => 0) := (gw13 _ (by omega)).trans f3
  have f4 : w13 (63) = ai 16 (fun _ => 0) := (gw13 _ (by omega)).trans f4
  have f5 : w13 (64) = ai 96 (fun _ => 0) := (gw13 _ (by omega)).trans f5
  have f6 : w13 (65) = ai 16 (fun _ => 0) := (gw13 _ (by omega)).trans f6
  have hk : w13 (59) = ob 7 [.int (nI 0), .ref (60), .ref (61), .ref (62), .ref (63), .ref (64), .ref (65), .null, .null, .null, .null, .null, .null, .null, .null, .null, .null, .int (nI 0), .int (nI 0), .null, .null, .null, .null, .null, .null, .null] := (gw13 _ (by omega)).trans hk
  have hf : fr w w13 (59) (83) := hf.tr (gw13.wide (by omega) (by omega))
  have f7 : w13 (66) = ai 16 (fun _ => 0) := by rw [hw13]; exact va_upd_self _ _ _
  refine ww_putA C hnm fl_X7_28 rfl hk (fs2 := [.int (nI 0), .ref (60), .ref (61), .ref (62), .ref (63), .ref (64), .ref (65), .ref (66), .null, .null, .null, .null, .null, .null, .null, .null, .null, .int (nI 0), .int (nI 0), .null, .null, .null, .null, .null, .null, .null]) (Nat.le_of_ble_eq_true rfl) rfl dX7_init_57 (fun w14 hw14 => ?_)
  have gw14 : fr w13 w14 (59) (60) := fr.up hw14 (by omega) (by omega)
  have f1 : w14 (60) = ai 400 (fun _ => 0) := (gw14 _ (by omega)).trans f1
  have f2 : w14 (61) = ai 2 (fun _ => 0) := (gw14 _ (by omega)).trans f2
  have f3 : w14 (62) = ai 16 (fun _ => 0) := (gw14 _ (by omega)).trans f3
  have f4 : w14 (63) = ai 16 (fun _ => 0) := (gw14 _ (by omega)).trans f4
  have f5 : w14 (64) = ai 96 (fun _ => 0) := (gw14 _ (by omega)).trans f5
  have f6 : w14 (65) = ai 16 (fun _ => 0) := (gw14 _ (by omega)).trans f6
  have f7 : w14 (66) = ai 16 (fun _ => 0) := (gw14 _ (by omega)).trans f7
  have hf : fr w w14 (59) (83) := hf.tr (gw14.wide (by omega) (by omega))
  have hk : w14 (59) = ob 7 [.int (nI 0), .ref (60), .ref (61), .ref (62), .ref (63), .ref (64), .ref (65), .ref (66), .null, .null, .null, .null, .null, .null, .null, .null, .null, .int (nI 0), .int (nI 0), .null, .null, .null, .null, .null, .null, .null] := by rw [hw14]; exact va_upd_self _ _ _
  refine ww_aload0 C dX7_init_60 ?_
  refine ww_bipush C (v := nI 12) dX7_init_61 (by decide) ?_
  refine ww_newI C (m0 := 12) (by decide) (by omega) (Nat.le_of_ble_eq_true rfl) (Nat.le_of_ble_eq_true rfl) dX7_init_63 (fun w15 hw15 => ?_)
  have gw15 : fr w14 w15 (67) (68) := fr.up hw15 (by omega) (by omega)
  have f1 : w15 (60) = ai 400 (fun _ => 0) := (gw15 _ (by omega)).trans f1
  have f2 : w15 (61) = ai 2 (fun _ => 0) := (gw15 _ (by omega)).trans f2
  have f3 : w15 (62) = ai 16 (fun _ => 0) := (gw15 _ (by omega)).trans f3
  have f4 : w15 (63) = ai 16 (fun _ => 0) := (gw15 _ (by omega)).trans f4
  have f5 : w15 (64) = ai 96 (fun _ => 0) := (gw15 _ (by omega)).trans f5
  have f6 : w15 (65) = ai 16 (fun _ => 0) := (gw15 _ (by omega)).trans f6
  have f7 : w15 (66) = ai 16 (fun _ => 0) := (gw15 _ (by omega)).trans f7
  have hk : w15 (59) = ob 7 [.int (nI 0), .ref (60), .ref (61), .ref (62), .ref (63), .ref (64), .ref (65), .ref (66), .null, .null, .null, .null, .null, .null, .null, .null, .null, .int (nI 0), .int (nI 0), .null, .null, .null, .null, .null, .null, .null] := (gw15 _ (by omega)).trans hk
  have hf : fr w w15 (59) (83) := hf.tr (gw15.wide (by omega) (by omega))
  have f8 : w15 (67) = ai 12 (fun _ => 0) := by rw [hw15]; exact va_upd_self _ _ _
  refine ww_putA C hnm fl_X7_31 rfl hk (fs2 := [.int (nI 0), .ref (60), .ref (61), .ref (62), .ref (63), .ref (64), .ref (65), .ref (66), .ref (67), .null, .null, .null, .null, .null, .null, .null, .null, .int (nI 0), .int (nI 0), .null, .null, .null, .null, .null, .null, .null]) (Nat.le_of_ble_eq_true rfl) rfl dX7_init_65 (fun w16 hw16 => ?_)
  have gw16 : fr w15 w16 (59) (60) := fr.up hw16 (by omega) (by omega)
  have f1 : w16 (60) = ai 400 (fun _ => 0) := (gw16 _ (by omega)).trans f1
  have f2 : w16 (61) = ai 2 (fun _ => 0) := (gw16 _ (by omega)).trans f2
  have f3 : w16 (62) = ai 16 (fun _ => 0) := (gw16 _ (by omega)).trans f3
  have f4 : w16 (63) = ai 16 (fun _ => 0) := (gw16 _ (by omega)).trans f4
  have f5 : w16 (64) = ai 96 (fun _ => 0) := (gw16 _ (by omega)).trans f5
  have f6 : w16 (65) = ai 16 (fun _ => 0) := (gw16 _ (by omega)).trans f6
  have f7 : w16 (66) = ai 16 (fun _ => 0) := (gw16 _ (by omega)).trans f7
  have f8 : w16 (67) = ai 12 (fun _ => 0) := (gw16 _ (by omega)).trans f8
  have hf : fr w w16 (59) (83) := hf.tr (gw16.wide (by omega) (by omega))
  have hk : w16 (59) = ob 7 [.int (nI 0), .ref (60), .ref (61), .ref (62), .ref (63), .ref (64), .ref (65), .ref (66), .ref (67), .null, .null, .null, .null, .null, .null, .null, .null, .int (nI 0), .int (nI 0), .null, .null, .null, .null, .null, .null, .null] := by rw [hw16]; exact va_upd_self _ _ _
  refine ww_aload0 C dX7_init_68 ?_
  refine ww_bipush C (v := nI 12) dX7_init_69 (by decide) ?_
  refine ww_newI C (m0 := 12) (by decide) (by omega) (Nat.le_of_ble_eq_true rfl) (Nat.le_of_ble_eq_true rfl) dX7_init_71 (fun w17 hw17 => ?_)
  have gw17 : fr w16 w17 (68) (69) := fr.up hw17 (by omega) (by omega)
  have f1 : w17 (60) = ai 400 (fun _ => 0) := (gw17 _ (by omega)).trans f1
  have f2 : w17 (61) = ai 2 (fun _ => 0) := (gw17 _ (by omega)).trans f2
  have f3 : w17 (62) = ai 16 (fun _ => 0) := (gw17 _ (by omega)).trans f3
  have f4 : w17 (63) = ai 16 (fun _ => 0) := (gw17 _ (by omega)).trans f4
  have f5 : w17 (64) = ai 96 (fun _ => 0) := (gw17 _ (by omega)).trans f5
  have f6 : w17 (65) = ai 16 (fun _ => 0) := (gw17 _ (by omega)).trans f6
  have f7 : w17 (66) = ai 16 (fun _ => 0) := (gw17 _ (by omega)).trans f7
  have f8 : w17 (67) = ai 12 (fun _ => 0) := (gw17 _ (by omega)).trans f8
  have hk : w17 (59) = ob 7 [.int (nI 0), .ref (60), .ref (61), .ref (62), .ref (63), .ref (64), .ref (65), .ref (66), .ref (67), .null, .null, .null, .null, .null, .null, .null, .null, .int (nI 0), .int (nI 0), .null, .null, .null, .null, .null, .null, .null] := (gw17 _ (by omega)).trans hk
  have hf : fr w w17 (59) (83) := hf.tr (gw17.wide (by omega) (by omega))
  have f9 : w17 (68) = ai 12 (fun _ => 0) := by rw [hw17]; exact va_upd_self _ _ _
  refine ww_putA C hnm fl_X7_34 rfl hk (fs2 := [.int (nI 0), .ref (60), .ref (61), .ref (62), .ref (63), .ref (64), .ref (65), .ref (66), .ref (67), .ref (68), .null, .null, .null, .null, .null, .null, .null, .int (nI 0), .int (nI 0), .null, .null, .null, .null, .null, .null, .null]) (Nat.le_of_ble_eq_true rfl) rfl dX7_init_73 (fun w18 hw18 => ?_)
  have gw18 : fr w17 w18 (59) (60) := fr.up hw18 (by omega) (by omega)
  have f1 : w18 (60) = ai 400 (fun _ => 0) := (gw18 _ (by omega)).trans f1
  have f2 : w18 (61) = ai 2 (fun _ => 0) := (gw18 _ (by omega)).trans f2
  have f3 : w18 (62) = ai 16 (fun _ => 0) := (gw18 _ (by omega)).trans f3
  have f4 : w18 (63) = ai 16 (fun _ => 0) := (gw18 _ (by omega)).trans f4
  have f5 : w18 (64) = ai 96 (fun _ => 0) := (gw18 _ (by omega)).trans f5
  have f6 : w18 (65) = ai 16 (fun _ => 0) := (gw18 _ (by omega)).trans f6
  have f7 : w18 (66) = ai 16 (fun _ => 0) := (gw18 _ (by omega)).trans f7
  have f8 : w18 (67) = ai 12 (fun _ => 0) := (gw18 _ (by omega)).trans f8
  have f9 : w18 (68) = ai 12 (fun _ => 0) := (gw18 _ (by omega)).trans f9
  have hf : fr w w18 (59) (83) := hf.tr (gw18.wide (by omega) (by omega))
  have hk : w18 (59) = ob 7 [.int (nI 0), .ref (60), .ref (61), .ref (62), .ref (63), .ref (64), .ref (65), .ref (66), .ref (67), .ref (68), .null, .null, .null, .null, .null, .null, .null, .int (nI 0), .int (nI 0), .null, .null, .null, .null, .null, .null, .null] := by rw [hw18]; exact va_upd_self _ _ _
  refine ww_aload0 C dX7_init_76 ?_
  refine ww_bipush C (v := nI 12) dX7_init_77 (by decide) ?_
  refine ww_newI C (m0 := 12) (by decide) (by omega) (Nat.le_of_ble_eq_true rfl) (Nat.le_of_ble_eq_true rfl) dX7_init_79 (fun w19 hw19 => ?_)
  have gw19 : fr w18 w19 (69) (70) := fr.up hw19 (by omega) (by omega)
  have f1 : w19 (60) = ai 400 (fun _ => 0) := (gw19 _ (by omega)).trans f1
  have f2 : w19 (61) = ai 2 (fun _ => 0) := (gw19 _ (by omega)).trans f2
  have f3 : w19 (62) = ai 16 (fun _ => 0) := (gw19 _ (by omega)).trans f3
  have f4 : w19 (63) = ai 16 (fun _ => 0) := (gw19 _ (by omega)).trans f4
  have f5 : w19 (64) = ai 96 (fun _ => 0) := (gw19 _ (by omega)).trans f5
  have f6 : w19 (65) = ai 16 (fun _ => 0) := (gw19 _ (by omega)).trans f6
  have f7 : w19 (66) = ai 16 (fun _ => 0) := (gw19 _ (by omega)).trans f7
  have f8 : w19 (67) = ai 12 (fun _ => 0) := (gw19 _ (by omega)).trans f8
  have f9 : w19 (68) = ai 12 (fun _ => 0) := (gw19 _ (by omega)).trans f9
  have hk : w19 (59) = ob 7 [.int (nI 0), .ref (60), .ref (61), .ref (62), .ref (63), .ref (64), .ref (65), .ref (66), .ref (67), .ref (68), .null, .null, .null, .null, .null, .null, .null, .int (nI 0), .int (nI 0), .null, .null, .null, .null, .null, .null, .null] := (gw19 _ (by omega)).trans hk
  have hf : fr w w19 (59) (83) := hf.tr (gw19.wide (by omega) (by omega))
  have f10 : w19 (69) = ai 12 (fun _ => 0) := by rw [hw19]; exact va_upd_self _ _ _
  refine ww_putA C hnm fl_X7_37 rfl hk (fs2 := [.int (nI 0), .ref (60), .ref (61), .ref (62), .ref (63), .ref (64), .ref (65), .ref (66), .ref (67), .ref (68), .ref (69), .null, .null, .null, .null, .null, .null, .int (nI 0), .int (nI 0), .null, .null, .null, .null, .null, .null, .null]) (Nat.le_of_ble_eq_true rfl) rfl dX7_init_81 (fun w20 hw20 => ?_)
  have gw20 : fr w19 w20 (59) (60) := fr.up hw20 (by omega) (by omega)
  have f1 : w20 (60) = ai 400 (fun _ => 0) := (gw20 _ (by omega)).trans f1
  have f2 : w20 (61) = ai 2 (fun _ => 0) := (gw20 _ (by omega)).trans f2
  have f3 : w20 (62) = ai 16 (fun _ => 0) := (gw20 _ (by omega)).trans f3
  have f4 : w20 (63) = ai 16 (fun _ => 0) := (gw20 _ (by omega)).trans f4
  have f5 : w20 (64) = ai 96 (fun _ => 0) := (gw20 _ (by omega)).trans f5
  have f6 : w20 (65) = ai 16 (fun _ => 0) := (gw20 _ (by omega)).trans f6
  have f7 : w20 (66) = ai 16 (fun _ => 0) := (gw20 _ (by omega)).trans f7
  have f8 : w20 (67) = ai 12 (fun _ => 0) := (gw20 _ (by omega)).trans f8
  have f9 : w20 (68) = ai 12 (fun _ => 0) := (gw20 _ (by omega)).trans f9
  have f10 : w20 (69) = ai 12 (fun _ => 0) := (gw20 _ (by omega)).trans f10
  have hf : fr w w20 (59) (83) := hf.tr (gw20.wide (by omega) (by omega))
  have hk : w20 (59) = ob 7 [.int (nI 0), .ref (60), .ref (61), .ref (62), .ref (63), .ref (64), .ref (65), .ref (66), .ref (67), .ref (68), .ref (69), .null, .null, .null, .null, .null, .null, .int (nI 0), .int (nI 0), .null, .null, .null, .null, .null, .null, .null] := by rw [hw20]; exact va_upd_self _ _ _
  refine ww_aload0 C dX7_init_84 ?_
  refine ww_bipush C (v := nI 6) dX7_init_85 (by decide) ?_
  refine ww_newI C (m0 := 6) (by decide) (by omega) (Nat.le_of_ble_eq_true rfl) (Nat.le_of_ble_eq_true rfl) dX7_init_87 (fun w21 hw21 => ?_)
  have gw21 : fr w20 w21 (70) (71) := fr.up hw21 (by omega) (by omega)
  have f1 : w21 (60) = ai 400 (fun _ => 0) := (gw21 _ (by omega)).trans f1
  have f2 : w21 (61) = ai 2 (fun _ => 0) := (gw21 _ (by omega)).trans f2
  have f3 : w21 (62) = ai 16 (fun _ => 0) := (gw21 _ (by omega)).trans f3
  have f4 : w21 (63) = ai 16 (fun _ => 0) := (gw21 _ (by omega)).trans f4
  have f5 : w21 (64) = ai 96 (fun _ => 0) := (gw21 _ (by omega)).trans f5
  have f6 : w21 (65) = ai 16 (fun _ => 0) := (gw21 _ (by omega)).trans f6
  have f7 : w21 (66) = ai 16 (fun _ => 0) := (gw21 _ (by omega)).trans f7
  have f8 : w21 (67) = ai 12 (fun _ => 0) := (gw21 _ (by omega)).trans f8
  have f9 : w21 (68) = ai 12 (fun _ => 0) := (gw21 _ (by omega)).trans f9
  have f10 : w21 (69) = ai 12 (fun _ => 0) := (gw21 _ (by omega)).trans f10
  have hk : w21 (59) = ob 7 [.int (nI 0), .ref (60), .ref (61), .ref (62), .ref (63), .ref (64), .ref (65), .ref (66), .ref (67), .ref (68), .ref (69), .null, .null, .null, .null, .null, .null, .int (nI 0), .int (nI 0), .null, .null, .null, .null, .null, .null, .null] := (gw21 _ (by omega)).trans hk
  have hf : fr w w21 (59) (83) := hf.tr (gw21.wide (by omega) (by omega))
  have f11 : w21 (70) = ai 6 (fun _ => 0) := by rw [hw21]; exact va_upd_self _ _ _
  refine ww_putA C hnm fl_X7_40 rfl hk (fs2 := [.int (nI 0), .ref (60), .ref (61), .ref (62), .ref (63), .ref (64), .ref (65), .ref (66), .ref (67), .ref (68), .ref (69), .ref (70), .null, .null, .null, .null, .null, .int (nI 0), .int (nI 0), .null, .null, .null, .null, .null, .null, .null]) (Nat.le_of_ble_eq_true rfl) rfl dX7_init_89 (fun w22 hw22 => ?_)
  have gw22 : fr w21 w22 (59) (60) := fr.up hw22 (by omega) (by omega)
  have f1 : w22 (60) = ai 400 (fun _ => 0) := (gw22 _ (by omega)).trans f1
  have f2 : w22 (61) = ai 2 (fun _ => 0) := (gw22 _ (by omega)).trans f2
  have f3 : w22 (62) = ai 16 (fun _ => 0) := (gw22 _ (by omega)).trans f3
  have f4 : w22 (63) = ai 16 (fun _ => 0) := (gw22 _ (by omega)).trans f4
  have f5 : w22 (64) = ai 96 (fun _ => 0) := (gw22 _ (by omega)).trans f5
  have f6 : w22 (65) = ai 16 (fun _ => 0) := (gw22 _ (by omega)).trans f6
  have f7 : w22 (66) = ai 16 (fun _ => 0) := (gw22 _ (by omega)).trans f7
  have f8 : w22 (67) = ai 12 (fun _ => 0) := (gw22 _ (by omega)).trans f8
  have f9 : w22 (68) = ai 12 (fun _ => 0) := (gw22 _ (by omega)).trans f9
  have f10 : w22 (69) = ai 12 (fun _ => 0) := (gw22 _ (by omega)).trans f10
  have f11 : w22 (70) = ai 6 (fun _ => 0) := (gw22 _ (by omega)).trans f11
  have hf : fr w w22 (59) (83) := hf.tr (gw22.wide (by omega) (by omega))
  have hk : w22 (59) = ob 7 [.int (nI 0), .ref (60), .ref (61), .ref (62), .ref (63), .ref (64), .ref (65), .ref (66), .ref (67), .ref (68), .ref (69), .ref (70), .null, .null, .null, .null, .null, .int (nI 0), .int (nI 0), .null, .null, .null, .null, .null, .null, .null] := by rw [hw22]; exact va_upd_self _ _ _
  refine ww_aload0 C dX7_init_92 ?_
  refine ww_bipush C (v := nI 32) dX7_init_93 (by decide) ?_
  refine ww_newI C (m0 := 32) (by decide) (by omega) (Nat.le_of_ble_eq_true rfl) (Nat.le_of_ble_eq_true rfl) dX7_init_95 (fun w23 hw23 => ?_)
  have gw23 : fr w22 w23 (71) (72) := fr.up hw23 (by omega) (by omega)
  have f1 : w23 (60) = ai 400 (fun _ => 0) := (gw23 _ (by omega)).trans f1
  have f2 : w23 (61) = ai 2 (fun _ => 0) := (gw23 _ (by omega)).trans f2
  have f3 : w23 (62) = ai 16 (fun _ => 0) := (gw23 _ (by omega)).trans f3
  have f4 : w23 (63) = ai 16 (fun _ => 0) := (gw23 _ (by omega)).trans f4
  have f5 : w23 (64) = ai 96 (fun _ => 0) := (gw23 _ (by omega)).trans f5
  have f6 : w23 (65) = ai 16 (fun _ => 0) := (gw23 _ (by omega)).trans f6
  have f7 : w23 (66) = ai 16 (fun _ => 0) := (gw23 _ (by omega)).trans f7
  have f8 : w23 (67) = ai 12 (fun _ => 0) := (gw23 _ (by omega)).trans f8
  have f9 : w23 (68) = ai 12 (fun _ => 0) := (gw23 _ (by omega)).trans f9
  have f10 : w23 (69) = ai 12 (fun _ => 0) := (gw23 _ (by omega)).trans f10
  have f11 : w23 (70) = ai 6 (fun _ => 0) := (gw23 _ (by omega)).trans f11
  have hk : w23 (59) = ob 7 [.int (nI 0), .ref (60), .ref (61), .ref (62), .ref (63), .ref (64), .ref (65), .ref (66), .ref (67), .ref (68), .ref (69), .ref (70), .null, .null, .null, .null, .null, .int (nI 0), .int (nI 0), .null, .null, .null, .null, .null, .null, .null] := (gw23 _ (by omega)).trans hk
  have hf : fr w w23 (59) (83) := hf.tr (gw23.wide (by omega) (by omega))
  have f12 : w23 (71) = ai 32 (fun _ => 0) := by rw [hw23]; exact va_upd_self _ _ _
  refine ww_putA C hnm fl_X7_43 rfl hk (fs2 := [.int (nI 0), .ref (60), .ref (61), .ref (62), .ref (63), .ref (64), .ref (65), .ref (66), .ref (67), .ref (68), .ref (69), .ref (70), .ref (71), .null, .null, .null, .null, .int (nI 0), .int (nI 0), .null, .null, .null, .null, .null, .null, .null]) (Nat.le_of_ble_eq_true rfl) rfl dX7_init_97 (fun w24 hw24 => ?_)
  have gw24 : fr w23 w24 (59) (60) := fr.up hw24 (by omega) (by omega)
  have f1 : w24 (60) = ai 400 (fun _ => 0) := (gw24 _ (by omega)).trans f1
  have f2 : w24 (61) = ai 2 (fun _ => 0) := (gw24 _ (by omega)).trans f2
  have f3 : w24 (62) = ai 16 (fun _ => 0) := (gw24 _ (by omega)).trans f3
  have f4 : w24 (63) = ai 16 (fun _ => 0) := (gw24 _ (by omega)).trans f4
  have f5 : w24 (64) = ai 96 (fun _ => 0) := (gw24 _ (by omega)).trans f5
  have f6 : w24 (65) = ai 16 (fun _ => 0) := (gw24 _ (by omega)).trans f6
  have f7 : w24 (66) = ai 16 (fun _ => 0) := (gw24 _ (by omega)).trans f7
  have f8 : w24 (67) = ai 12 (fun _ => 0) := (gw24 _ (by omega)).trans f8
  have f9 : w24 (68) = ai 12 (fun _ => 0) := (gw24 _ (by omega)).trans f9
  have f10 : w24 (69) = ai 12 (fun _ => 0) := (gw24 _ (by omega)).trans f10
  have f11 : w24 (70) = ai 6 (fun _ => 0) := (gw24 _ (by omega)).trans f11
  have f12 : w24 (71) = ai 32 (fun _ => 0) := (gw24 _ (by omega)).trans f12
  have hf : fr w w24 (59) (83) := hf.tr (gw24.wide (by omega) (by omega))
  have hk : w24 (59) = ob 7 [.int (nI 0), .ref (60), .ref (61), .ref (62), .ref (63), .ref (64), .ref (65), .ref (66), .ref (67), .ref (68), .ref (69), .ref (70), .ref (71), .null, .null, .null, .null, .int (nI 0), .int (nI 0), .null, .null, .null, .null, .null, .null, .null] := by rw [hw24]; exact va_upd_self _ _ _
  refine ww_aload0 C dX7_init_100 ?_
  refine ww_bipush C (v := nI 32) dX7_init_101 (by decide) ?_
  refine ww_newI C (m0 := 32) (by decide) (by omega) (Nat.le_of_ble_eq_true rfl) (Nat.le_of_ble_eq_true rfl) dX7_init_103 (fun w25 hw25 => ?_)
  have gw25 : fr w24 w25 (72) (73) := fr.up hw25 (by omega) (by omega)
  have f1 : w25 (60) = ai 400 (fun _ => 0) := (gw25 _ (by omega)).trans f1
  have f2 : w25 (61) = ai 2 (fun _ => 0) := (gw25 _ (by omega)).trans f2
  have f3 : w25 (62) = ai 16 (fun _ => 0) := (gw25 _ (by omega)).trans f3
  have f4 : w25 (63) = ai 16 (fun _ => 0) := (gw25 _ (by omega)).trans f4
  have f5 : w25 (64) = ai 96 (fun _ => 0) := (gw25 _ (by omega)).trans f5
  have f6 : w25 (65) = ai 16 (fun _ => 0) := (gw25 _ (by omega)).trans f6
  have f7 : w25 (66) = ai 16 (fun _ => 0) := (gw25 _ (by omega)).trans f7
  have f8 : w25 (67) = ai 12 (fun _ => 0) := (gw25 _ (by omega)).trans f8
  have f9 : w25 (68) = ai 12 (fun _ => 0) := (gw25 _ (by omega)).trans f9
  have f10 : w25 (69) = ai 12 (fun _ => 0) := (gw25 _ (by omega)).trans f10
  have f11 : w25 (70) = ai 6 (fun _ => 0) := (gw25 _ (by omega)).trans f11
  have f12 : w25 (71) = ai 32 (fun _ => 0) := (gw25 _ (by omega)).trans f12
  have hk : w25 (59) = ob 7 [.int (nI 0), .ref (60), .ref (61), .ref (62), .ref (63), .ref (64), .ref (65), .ref (66), .ref (67), .ref (68), .ref (69), .ref (70), .ref (71), .null, .null, .null, .null, .int (nI 0), .int (nI 0), .null, .null, .null, .null, .null, .null, .null] := (gw25 _ (by omega)).trans hk
  have hf : fr w w25 (59) (83) := hf.tr (gw25.wide (by omega) (by omega))
  have f13 : w25 (72) = ai 32 (fun _ => 0) := by rw [hw25]; exact va_upd_self _ _ _
  refine ww_putA C hnm fl_X7_46 rfl hk (fs2 := [.int (nI 0), .ref (60), .ref (61), .ref (62), .ref (63), .ref (64), .ref (65), .ref (66), .ref (67), .ref (68), .ref (69), .ref (70), .ref (71), .ref (72), .null, .null, .null, .int (nI 0), .int (nI 0), .null, .null, .null, .null, .null, .null, .null]) (Nat.le_of_ble_eq_true rfl) rfl dX7_init_105 (fun w26 hw26 => ?_)
  have gw26 : fr w25 w26 (59) (60) := fr.up hw26 (by omega) (by omega)
  have f1 : w26 (60) = ai 400 (fun _ => 0) := (gw26 _ (by omega)).trans f1
  have f2 : w26 (61) = ai 2 (fun _ => 0) := (gw26 _ (by omega)).trans f2
  have f3 : w26 (62) = ai 16 (fun _ => 0) := (gw26 _ (by omega)).trans f3
  have f4 : w26 (63) = ai 16 (fun _ => 0) := (gw26 _ (by omega)).trans f4
  have f5 : w26 (64) = ai 96 (fun _ => 0) := (gw26 _ (by omega)).trans f5
  have f6 : w26 (65) = ai 16 (fun _ => 0) := (gw26 _ (by omega)).trans f6
  have f7 : w26 (66) = ai 16 (fun _ => 0) := (gw26 _ (by omega)).trans f7
  have f8 : w26 (67) = ai 12 (fun _ => 0) := (gw26 _ (by omega)).trans f8
  have f9 : w26 (68) = ai 12 (fun _ => 0) := (gw26 _ (by omega)).trans f9
  have f10 : w26 (69) = ai 12 (fun _ => 0) := (gw26 _ (by omega)).trans f10
  have f11 : w26 (70) = ai 6 (fun _ => 0) := (gw26 _ (by omega)).trans f11
  have f12 : w26 (71) = ai 32 (fun _ => 0) := (gw26 _ (by omega)).trans f12
  have f13 : w26 (72) = ai 32 (fun _ => 0) := (gw26 _ (by omega)).trans f13
  have hf : fr w w26 (59) (83) := hf.tr (gw26.wide (by omega) (by omega))
  have hk : w26 (59) = ob 7 [.int (nI 0), .ref (60), .ref (61), .ref (62), .ref (63), .ref (64), .ref (65), .ref (66), .ref (67), .ref (68), .ref (69), .ref (70), .ref (71), .ref (72), .null, .null, .null, .int (nI 0), .int (nI 0), .null, .null, .null, .null, .null, .null, .null] := by rw [hw26]; exact va_upd_self _ _ _
  refine ww_aload0 C dX7_init_108 ?_
  refine ww_sipush C (v := nI 320) dX7_init_109 (by decide) ?_
  refine ww_newI C (m0 := 320) (by decide) (by omega) (Nat.le_of_ble_eq_true rfl) (Nat.le_of_ble_eq_true rfl) dX7_init_112 (fun w27 hw27 => ?_)
  have gw27 : fr w26 w27 (73) (74) := fr.up hw27 (by omega) (by omega)
  have f1 : w27 (60) = ai 400 (fun _ => 0) := (gw27 _ (by omega)).trans f1
  have f2 : w27 (61) = ai 2 (fun _ => 0) := (gw27 _ (by omega)).trans f2
  have f3 : w27 (62) = ai 16 (fun _ => 0) := (gw27 _ (by omega)).trans f3
  have f4 : w27 (63) = ai 16 (fun _ => 0) := (gw27 _ (by omega)).trans f4
  have f5 : w27 (64) = ai 96 (fun _ => 0) := (gw27 _ (by omega)).trans f5
  have f6 : w27 (65) = ai 16 (fun _ => 0) := (gw27 _ (by omega)).trans f6
  have f7 : w27 (66) = ai 16 (fun _ => 0) := (gw27 _ (by omega)).trans f7
  have f8 : w27 (67) = ai 12 (fun _ => 0) := (gw27 _ (by omega)).trans f8
  have f9 : w27 (68) = ai 12 (fun _ => 0) := (gw27 _ (by omega)).trans f9
  have f10 : w27 (69) = ai 12 (fun _ => 0) := (gw27 _ (by omega)).trans f10
  have f11 : w27 (70) = ai 6 (fun _ => 0) := (gw27 _ (by omega)).trans f11
  have f12 : w27 (71) = ai 32 (fun _ => 0) := (gw27 _ (by omega)).trans f12
  have f13 : w27 (72) = ai 32 (fun _ => 0) := (gw27 _ (by omega)).trans f13
  have hk : w27 (59) = ob 7 [.int (nI 0), .ref (60), .ref (61), .ref (62), .ref (63), .ref (64), .ref (65), .ref (66), .ref (67), .ref (68), .ref (69), .ref (70), .ref (71), .ref (72), .null, .null, .null, .int (nI 0), .int (nI 0), .null, .null, .null, .null, .null, .null, .null] := (gw27 _ (by omega)).trans hk
  have hf : fr w w27 (59) (83) := hf.tr (gw27.wide (by omega) (by omega))
  have f14 : w27 (73) = ai 320 (fun _ => 0) := by rw [hw27]; exact va_upd_self _ _ _
  refine ww_putA C hnm fl_X7_49 rfl hk (fs2 := [.int (nI 0), .ref (60), .ref (61), .ref (62), .ref (63), .ref (64), .ref (65), .ref (66), .ref (67), .ref (68), .ref (69), .ref (70), .ref (71), .ref (72), .ref (73), .null, .null, .int (nI 0), .int (nI 0), .null, .null, .null, .null, .null, .null, .null]) (Nat.le_of_ble_eq_true rfl) rfl dX7_init_114 (fun w28 hw28 => ?_)
  have gw28 : fr w27 w28 (59) (60) := fr.up hw28 (by omega) (by omega)
  have f1 : w28 (60) = ai 400 (fun _ => 0) := (gw28 _ (by omega)).trans f1
  have f2 : w28 (61) = ai 2 (fun _ => 0) := (gw28 _ (by omega)).trans f2
  have f3 : w28 (62) = ai 16 (fun _ => 0) := (gw28 _ (by omega)).trans f3
  have f4 : w28 (63) = ai 16 (fun _ => 0) := (gw28 _ (by omega)).trans f4
  have f5 : w28 (64) = ai 96 (fun _ => 0) := (gw28 _ (by omega)).trans f5
  have f6 : w28 (65) = ai 16 (fun _ => 0) := (gw28 _ (by omega)).trans f6
  have f7 : w28 (66) = ai 16 (fun _ => 0) := (gw28 _ (by omega)).trans f7
  have f8 : w28 (67) = ai 12 (fun _ => 0) := (gw28 _ (by omega)).trans f8
  have f9 : w28 (68) = ai 12 (fun _ => 0) := (gw28 _ (by omega)).trans f9
  have f10 : w28 (69) = ai 12 (fun _ => 0) := (gw28 _ (by omega)).trans f10
  have f11 : w28 (70) = ai 6 (fun _ => 0) := (gw28 _ (by omega)).trans f11
  have f12 : w28 (71) = ai 32 (fun _ => 0) := (gw28 _ (by omega)).trans f12
  have f13 : w28 (72) = ai 32 (fun _ => 0) := (gw28 _ (by omega)).trans f13
  have f14 : w28 (73) = ai 320 (fun _ => 0) := (gw28 _ (by omega)).trans f14
  have hf : fr w w28 (59) (83) := hf.tr (gw28.wide (by omega) (by omega))
  have hk : w28 (59) = ob 7 [.int (nI 0), .ref (60), .ref (61), .ref (62), .ref (63), .ref (64), .ref (65), .ref (66), .ref (67), .ref (68), .ref (69), .ref (70), .ref (71), .ref (72), .ref (73), .null, .null, .int (nI 0), .int (nI 0), .null, .null, .null, .null, .null, .null, .null] := by rw [hw28]; exact va_upd_self _ _ _
  refine ww_aload0 C dX7_init_117 ?_
  refine ww_iconst C (v := nI 3) dX7_init_118 (by decide) ?_
  refine ww_newI C (m0 := 3) (by decide) (by omega) (Nat.le_of_ble_eq_true rfl) (Nat.le_of_ble_eq_true rfl) dX7_init_119 (fun w29 hw29 => ?_)
  have gw29 : fr w28 w29 (74) (75) := fr.up hw29 (by omega) (by omega)
  have f1 : w29 (60) = ai 400 (fun _ => 0) := (gw29 _ (by omega)).trans f1
  have f2 : w29 (61) = ai 2 (fun _ => 0) := (gw29 _ (by omega)).trans f2
  have f3 : w29 (62) = ai 16 (fun _ => 0) := (gw29 _ (by omega)).trans f3
  have f4 : w29 (63) = ai 16 (fun _ => 0) := (gw29 _ (by omega)).trans f4
  have f5 : w29 (64) = ai 96 (fun _ => 0) := (gw29 _ (by omega)).trans f5
  have f6 : w29 (65) = ai 16 (fun _ => 0) := (gw29 _ (by omega)).trans f6
  have f7 : w29 (66) = ai 16 (fun _ => 0) := (gw29 _ (by omega)).trans f7
  have f8 : w29 (67) = ai 12 (fun _ => 0) := (gw29 _ (by omega)).trans f8
  have f9 : w29 (68) = ai 12 (fun _ => 0) := (gw29 _ (by omega)).trans f9
  have f10 : w29 (69) = ai 12 (fun _ => 0) := (gw29 _ (by omega)).trans f10
  have f11 : w29 (70) = ai 6 (fun _ => 0) := (gw29 _ (by omega)).trans f11
  have f12 : w29 (71) = ai 32 (fun _ => 0) := (gw29 _ (by omega)).trans f12
  have f13 : w29 (72) = ai 32 (fun _ => 0) := (gw29 _ (by omega)).trans f13
  have f14 : w29 (73) = ai 320 (fun _ => 0) := (gw29 _ (by omega)).trans f14
  have hk : w29 (59) = ob 7 [.int (nI 0), .ref (60), .ref (61), .ref (62), .ref (63), .ref (64), .ref (65), .ref (66), .ref (67), .ref (68), .ref (69), .ref (70), .ref (71), .ref (72), .ref (73), .null, .null, .int (nI 0), .int (nI 0), .null, .null, .null, .null, .null, .null, .null] := (gw29 _ (by omega)).trans hk
  have hf : fr w w29 (59) (83) := hf.tr (gw29.wide (by omega) (by omega))
  have f15 : w29 (74) = ai 3 (fun _ => 0) := by rw [hw29]; exact va_upd_self _ _ _
  refine ww_putA C hnm fl_X7_52 rfl hk (fs2 := [.int (nI 0), .ref (60), .ref (61), .ref (62), .ref (63), .ref (64), .ref (65), .ref (66), .ref (67), .ref (68), .ref (69), .ref (70), .ref (71), .ref (72), .ref (73), .ref (74), .null, .int (nI 0), .int (nI 0), .null, .null, .null, .null, .null, .null, .null]) (Nat.le_of_ble_eq_true rfl) rfl dX7_init_121 (fun w30 hw30 => ?_)
  have gw30 : fr w29 w30 (59) (60) := fr.up hw30 (by omega) (by omega)
  have f1 : w30 (60) = ai 400 (fun _ => 0) := (gw30 _ (by omega)).trans f1
  have f2 : w30 (61) = ai 2 (fun _ => 0) := (gw30 _ (by omega)).trans f2
  have f3 : w30 (62) = ai 16 (fun _ => 0) := (gw30 _ (by omega)).trans f3
  have f4 : w30 (63) = ai 16 (fun _ => 0) := (gw30 _ (by omega)).trans f4
  have f5 : w30 (64) = ai 96 (fun _ => 0) := (gw30 _ (by omega)).trans f5
  have f6 : w30 (65) = ai 16 (fun _ => 0) := (gw30 _ (by omega)).trans f6
  have f7 : w30 (66) = ai 16 (fun _ => 0) := (gw30 _ (by omega)).trans f7
  have f8 : w30 (67) = ai 12 (fun _ => 0) := (gw30 _ (by omega)).trans f8
  have f9 : w30 (68) = ai 12 (fun _ => 0) := (gw30 _ (by omega)).trans f9
  have f10 : w30 (69) = ai 12 (fun _ => 0) := (gw30 _ (by omega)).trans f10
  have f11 : w30 (70) = ai 6 (fun _ => 0) := (gw30 _ (by omega)).trans f11
  have f12 : w30 (71) = ai 32 (fun _ => 0) := (gw30 _ (by omega)).trans f12
  have f13 : w30 (72) = ai 32 (fun _ => 0) := (gw30 _ (by omega)).trans f13
  have f14 : w30 (73) = ai 320 (fun _ => 0) := (gw30 _ (by omega)).trans f14
  have f15 : w30 (74) = ai 3 (fun _ => 0) := (gw30 _ (by omega)).trans f15
  have hf : fr w w30 (59) (83) := hf.tr (gw30.wide (by omega) (by omega))
  have hk : w30 (59) = ob 7 [.int (nI 0), .ref (60), .ref (61), .ref (62), .ref (63), .ref (64), .ref (65), .ref (66), .ref (67), .ref (68), .ref (69), .ref (70), .ref (71), .ref (72), .ref (73), .ref (74), .null, .int (nI 0), .int (nI 0), .null, .null, .null, .null, .null, .null, .null] := by rw [hw30]; exact va_upd_self _ _ _
  refine ww_aload0 C dX7_init_124 ?_
  refine ww_bipush C (v := nI 36) dX7_init_125 (by decide) ?_
  refine ww_newI C (m0 := 36) (by decide) (by omega) (Nat.le_of_ble_eq_true rfl) (Nat.le_of_ble_eq_true rfl) dX7_init_127 (fun w31 hw31 => ?_)
  have gw31 : fr w30 w31 (75) (76) := fr.up hw31 (by omega) (by omega)
  have f1 : w31 (60) = ai 400 (fun _ => 0) := (gw31 _ (by omega)).trans f1
  have f2 : w31 (61) = ai 2 (fun _ => 0) := (gw31 _ (by omega)).trans f2
  have f3 : w31 (62) = ai 16 (fun _ => 0) := (gw31 _ (by omega)).trans f3
  have f4 : w31 (63) = ai 16 (fun _ => 0) := (gw31 _ (by omega)).trans f4
  have f5 : w31 (64) = ai 96 (fun _ => 0) := (gw31 _ (by omega)).trans f5
  have f6 : w31 (65) = ai 16 (fun _ => 0) := (gw31 _ (by omega)).trans f6
  have f7 : w31 (66) = ai 16 (fun _ => 0) := (gw31 _ (by omega)).trans f7
  have f8 : w31 (67) = ai 12 (fun _ => 0) := (gw31 _ (by omega)).trans f8
  have f9 : w31 (68) = ai 12 (fun _ => 0) := (gw31 _ (by omega)).trans f9
  have f10 : w31 (69) = ai 12 (fun _ => 0) := (gw31 _ (by omega)).trans f10
  have f11 : w31 (70) = ai 6 (fun _ => 0) := (gw31 _ (by omega)).trans f11
  have f12 : w31 (71) = ai 32 (fun _ => 0) := (gw31 _ (by omega)).trans f12
  have f13 : w31 (72) = ai 32 (fun _ => 0) := (gw31 _ (by omega)).trans f13
  have f14 : w31 (73) = ai 320 (fun _ => 0) := (gw31 _ (by omega)).trans f14
  have f15 : w31 (74) = ai 3 (fun _ => 0) := (gw31 _ (by omega)).trans f15
  have hk : w31 (59) = ob 7 [.int (nI 0), .ref (60), .ref (61), .ref (62), .ref (63), .ref (64), .ref (65), .ref (66), .ref (67), .ref (68), .ref (69), .ref (70), .ref (71), .ref (72), .ref (73), .ref (74), .null, .int (nI 0), .int (nI 0), .null, .null, .null, .null, .null, .null, .null] := (gw31 _ (by omega)).trans hk
  have hf : fr w w31 (59) (83) := hf.tr (gw31.wide (by omega) (by omega))
  have f16 : w31 (75) = ai 36 (fun _ => 0) := by rw [hw31]; exact va_upd_self _ _ _
  refine ww_putA C hnm fl_X7_55 rfl hk (fs2 := [.int (nI 0), .ref (60), .ref (61), .ref (62), .ref (63), .ref (64), .ref (65), .ref (66), .ref (67), .ref (68), .ref (69), .ref (70), .ref (71), .ref (72), .ref (73), .ref (74), .ref (75), .int (nI 0), .int (nI 0), .null, .null, .null, .null, .null, .null, .null]) (Nat.le_of_ble_eq_true rfl) rfl dX7_init_129 (fun w32 hw32 => ?_)
  have gw32 : fr w31 w32 (59) (60) := fr.up hw32 (by omega) (by omega)
  have f1 : w32 (60) = ai 400 (fun _ => 0) := (gw32 _ (by omega)).trans f1
  have f2 : w32 (61) = ai 2 (fun _ => 0) := (gw32 _ (by omega)).trans f2
  have f3 : w32 (62) = ai 16 (fun _ => 0) := (gw32 _ (by omega)).trans f3
  have f4 : w32 (63) = ai 16 (fun _ => 0) := (gw32 _ (by omega)).trans f4
  have f5 : w32 (64) = ai 96 (fun _ => 0) := (gw32 _ (by omega)).trans f5
  have f6 : w32 (65) = ai 16 (fun _ => 0) := (gw32 _ (by omega)).trans f6
  have f7 : w32 (66) = ai 16 (fun _ => 0) := (gw32 _ (by omega)).trans f7
  have f8 : w32 (67) = ai 12 (fun _ => 0) := (gw32 _ (by omega)).trans f8
  have f9 : w32 (68) = ai 12 (fun _ => 0) := (gw32 _ (by omega)).trans f9
  have f10 : w32 (69) = ai 12 (fun _ => 0) := (gw32 _ (by omega)).trans f10
  have f11 : w32 (70) = ai 6 (fun _ => 0) := (gw32 _ (by omega)).trans f11
  have f12 : w32 (71) = ai 32 (fun _ => 0) := (gw32 _ (by omega)).trans f12
  have f13 : w32 (72) = ai 32 (fun _ => 0) := (gw32 _ (by omega)).trans f13
  have f14 : w32 (73) = ai 320 (fun _ => 0) := (gw32 _ (by omega)).trans f14
  have f15 : w32 (74) = ai 3 (fun _ => 0) := (gw32 _ (by omega)).trans f15
  have f16 : w32 (75) = ai 36 (fun _ => 0) := (gw32 _ (by omega)).trans f16
  have hf : fr w w32 (59) (83) := hf.tr (gw32.wide (by omega) (by omega))
  have hk : w32 (59) = ob 7 [.int (nI 0), .ref (60), .ref (61), .ref (62), .ref (63), .ref (64), .ref (65), .ref (66), .ref (67), .ref (68), .ref (69), .ref (70), .ref (71), .ref (72), .ref (73), .ref (74), .ref (75), .int (nI 0), .int (nI 0), .null, .null, .null, .null, .null, .null, .null] := by rw [hw32]; exact va_upd_self _ _ _
  refine ww_aload0 C dX7_init_132 ?_
  refine ww_iconst C (v := nI 2) dX7_init_133 (by decide) ?_
  refine ww_newI C (m0 := 2) (by decide) (by omega) (Nat.le_of_ble_eq_true rfl) (Nat.le_of_ble_eq_true rfl) dX7_init_134 (fun w33 hw33 => ?_)
  have gw33 : fr w32 w33 (76) (77) := fr.up hw33 (by omega) (by omega)
  have f1 : w33 (60) = ai 400 (fun _ => 0) := (gw33 _ (by omega)).trans f1
  have f2 : w33 (61) = ai 2 (fun _ => 0) := (gw33 _ (by omega)).trans f2
  have f3 : w33 (62) = ai 16 (fun _ => 0) := (gw33 _ (by omega)).trans f3
  have f4 : w33 (63) = ai 16 (fun _ => 0) := (gw33 _ (by omega)).trans f4
  have f5 : w33 (64) = ai 96 (fun _ => 0) := (gw33 _ (by omega)).trans f5
  have f6 : w33 (65) = ai 16 (fun _ => 0) := (gw33 _ (by omega)).trans f6
  have f7 : w33 (66) = ai 16 (fun _ => 0) := (gw33 _ (by omega)).trans f7
  have f8 : w33 (67) = ai 12 (fun _ => 0) := (gw33 _ (by omega)).trans f8
  have f9 : w33 (68) = ai 12 (fun _ => 0) := (gw33 _ (by omega)).trans f9
  have f10 : w33 (69) = ai 12 (fun _ => 0) := (gw33 _ (by omega)).trans f10
  have f11 : w33 (70) = ai 6 (fun _ => 0) := (gw33 _ (by omega)).trans f11
  have f12 : w33 (71) = ai 32 (fun _ => 0) := (gw33 _ (by omega)).trans f12
  have f13 : w33 (72) = ai 32 (fun _ => 0) := (gw33 _ (by omega)).trans f13
  have f14 : w33 (73) = ai 320 (fun _ => 0) := (gw33 _ (by omega)).trans f14
  have f15 : w33 (74) = ai 3 (fun _ => 0) := (gw33 _ (by omega)).trans f15
  have f16 : w33 (75) = ai 36 (fun _ => 0) := (gw33 _ (by omega)).trans f16
  have hk : w33 (59) = ob 7 [.int (nI 0), .ref (60), .ref (61), .ref (62), .ref (63), .ref (64), .ref (65), .ref (66), .ref (67), .ref (68), .ref (69), .ref (70), .ref (71), .ref (72), .ref (73), .ref (74), .ref (75), .int (nI 0), .int (nI 0), .null, .null, .null, .null, .null, .null, .null] := (gw33 _ (by omega)).trans hk
  have hf : fr w w33 (59) (83) := hf.tr (gw33.wide (by omega) (by omega))
  have f17 : w33 (76) = ai 2 (fun _ => 0) := by rw [hw33]; exact va_upd_self _ _ _
  refine ww_putA C hnm fl_X7_58 rfl hk (fs2 := [.int (nI 0), .ref (60), .ref (61), .ref (62), .ref (63), .ref (64), .ref (65), .ref (66), .ref (67), .ref (68), .ref (69), .ref (70), .ref (71), .ref (72), .ref (73), .ref (74), .ref (75), .int (nI 0), .int (nI 0), .ref (76), .null, .null, .null, .null, .null, .null]) (Nat.le_of_ble_eq_true rfl) rfl dX7_init_136 (fun w34 hw34 => ?_)
  have gw34 : fr w33 w34 (59) (60) := fr.up hw34 (by omega) (by omega)
  have f1 : w34 (60) = ai 400 (fun _ => 0) := (gw34 _ (by omega)).trans f1
  have f2 : w34 (61) = ai 2 (fun _ => 0) := (gw34 _ (by omega)).trans f2
  have f3 : w34 (62) = ai 16 (fun _ => 0) := (gw34 _ (by omega)).trans f3
  have f4 : w34 (63) = ai 16 (fun _ => 0) := (gw34 _ (by omega)).trans f4
  have f5 : w34 (64) = ai 96 (fun _ => 0) := (gw34 _ (by omega)).trans f5
  have f6 : w34 (65) = ai 16 (fun _ => 0) := (gw34 _ (by omega)).trans f6
  have f7 : w34 (66) = ai 16 (fun _ => 0) := (gw34 _ (by omega)).trans f7
  have f8 : w34 (67) = ai 12 (fun _ => 0) := (gw34 _ (by omega)).trans f8
  have f9 : w34 (68) = ai 12 (fun _ => 0) := (gw34 _ (by omega)).trans f9
  have f10 : w34 (69) = ai 12 (fun _ => 0) := (gw34 _ (by omega)).trans f10
  have f11 : w34 (70) = ai 6 (fun _ => 0) := (gw34 _ (by omega)).trans f11
  have f12 : w34 (71) = ai 32 (fun _ => 0) := (gw34 _ (by omega)).trans f12
  have f13 : w34 (72) = ai 32 (fun _ => 0) := (gw34 _ (by omega)).trans f13
  have f14 : w34 (73) = ai 320 (fun _ => 0) := (gw34 _ (by omega)).trans f14
  have f15 : w34 (74) = ai 3 (fun _ => 0) := (gw34 _ (by omega)).trans f15
  have f16 : w34 (75) = ai 36 (fun _ => 0) := (gw34 _ (by omega)).trans f16
  have f17 : w34 (76) = ai 2 (fun _ => 0) := (gw34 _ (by omega)).trans f17
  have hf : fr w w34 (59) (83) := hf.tr (gw34.wide (by omega) (by omega))
  have hk : w34 (59) = ob 7 [.int (nI 0), .ref (60), .ref (61), .ref (62), .ref (63), .ref (64), .ref (65), .ref (66), .ref (67), .ref (68), .ref (69), .ref (70), .ref (71), .ref (72), .ref (73), .ref (74), .ref (75), .int (nI 0), .int (nI 0), .ref (76), .null, .null, .null, .null, .null, .null] := by rw [hw34]; exact va_upd_self _ _ _
  refine ww_aload0 C dX7_init_139 ?_
  refine ww_sipush C (v := nI 160) dX7_init_140 (by decide) ?_
  refine ww_newI C (m0 := 160) (by decide) (by omega) (Nat.le_of_ble_eq_true rfl) (Nat.le_of_ble_eq_true rfl) dX7_init_143 (fun w35 hw35 => ?_)
  have gw35 : fr w34 w35 (77) (78) := fr.up hw35 (by omega) (by omega)
  have f1 : w35 (60) = ai 400 (fun _ => 0) := (gw35 _ (by omega)).trans f1
  have f2 : w35 (61) = ai 2 (fun _ => 0) := (gw35 _ (by omega)).trans f2
  have f3 : w35 (62) = ai 16 (fun _ => 0) := (gw35 _ (by omega)).trans f3
  have f4 : w35 (63) = ai 16 (fun _ => 0) := (gw35 _ (by omega)).trans f4
  have f5 : w35 (64) = ai 96 (fun _ => 0) := (gw35 _ (by omega)).trans f5
  have f6 : w35 (65) = ai 16 (fun _ => 0) := (gw35 _ (by omega)).trans f6
  have f7 : w35 (66) = ai 16 (fun _ => 0) := (gw35 _ (by omega)).trans f7
  have f8 : w35 (67) = ai 12 (fun _ => 0) := (gw35 _ (by omega)).trans f8
  have f9 : w35 (68) = ai 12 (fun _ => 0) := (gw35 _ (by omega)).trans f9
  have f10 : w35 (69) = ai 12 (fun _ => 0) := (gw35 _ (by omega)).trans f10
  have f11 : w35 (70) = ai 6 (fun _ => 0) := (gw35 _ (by omega)).trans f11
  have f12 : w35 (71) = ai 32 (fun _ => 0) := (gw35 _ (by omega)).trans f12
  have f13 : w35 (72) = ai 32 (fun _ => 0) := (gw35 _ (by omega)).trans f13
  have f14 : w35 (73) = ai 320 (fun _ => 0) := (gw35 _ (by omega)).trans f14
  have f15 : w35 (74) = ai 3 (fun _ => 0) := (gw35 _ (by omega)).trans f15
  have f16 : w35 (75) = ai 36 (fun _ => 0) := (gw35 _ (by omega)).trans f16
  have f17 : w35 (76) = ai 2 (fun _ => 0) := (gw35 _ (by omega)).trans f17
  have hk : w35 (59) = ob 7 [.int (nI 0), .ref (60), .ref (61), .ref (62), .ref (63), .ref (64), .ref (65), .ref (66), .ref (67), .ref (68), .ref (69), .ref (70), .ref (71), .ref (72), .ref (73), .ref (74), .ref (75), .int (nI 0), .int (nI 0), .ref (76), .null, .null, .null, .null, .null, .null] := (gw35 _ (by omega)).trans hk
  have hf : fr w w35 (59) (83) := hf.tr (gw35.wide (by omega) (by omega))
  have f18 : w35 (77) = ai 160 (fun _ => 0) := by rw [hw35]; exact va_upd_self _ _ _
  refine ww_putA C hnm fl_X7_61 rfl hk (fs2 := [.int (nI 0), .ref (60), .ref (61), .ref (62), .ref (63), .ref (64), .ref (65), .ref (66), .ref (67), .ref (68), .ref (69), .ref (70), .ref (71), .ref (72), .ref (73), .ref (74), .ref (75), .int (nI 0), .int (nI 0), .ref (76), .ref (77), .null, .null, .null, .null, .null]) (Nat.le_of_ble_eq_true rfl) rfl dX7_init_145 (fun w36 hw36 => ?_)
  have gw36 : fr w35 w36 (59) (60) := fr.up hw36 (by omega) (by omega)
  have f1 : w36 (60) = ai 400 (fun _ => 0) := (gw36 _ (by omega)).trans f1
  have f2 : w36 (61) = ai 2 (fun _ => 0) := (gw36 _ (by omega)).trans f2
  have f3 : w36 (62) = ai 16 (fun _ => 0) := (gw36 _ (by omega)).trans f3
  have f4 : w36 (63) = ai 16 (fun _ => 0) := (gw36 _ (by omega)).trans f4
  have f5 : w36 (64) = ai 96 (fun _ => 0) := (gw36 _ (by omega)).trans f5
  have f6 : w36 (65) = ai 16 (fun _ => 0) := (gw36 _ (by omega)).trans f6
  have f7 : w36 (66) = ai 16 (fun _ => 0) := (gw36 _ (by omega)).trans f7
  have f8 : w36 (67) = ai 12 (fun _ => 0) := (gw36 _ (by omega)).trans f8
  have f9 : w36 (68) = ai 12 (fun _ => 0) := (gw36 _ (by omega)).trans f9
  have f10 : w36 (69) = ai 12 (fun _ => 0) := (gw36 _ (by omega)).trans f10
  have f11 : w36 (70) = ai 6 (fun _ => 0) := (gw36 _ (by omega)).trans f11
  have f12 : w36 (71) = ai 32 (fun _ => 0) := (gw36 _ (by omega)).trans f12
  have f13 : w36 (72) = ai 32 (fun _ => 0) := (gw36 _ (by omega)).trans f13
  have f14 : w36 (73) = ai 320 (fun _ => 0) := (gw36 _ (by omega)).trans f14
  have f15 : w36 (74) = ai 3 (fun _ => 0) := (gw36 _ (by omega)).trans f15
  have f16 : w36 (75) = ai 36 (fun _ => 0) := (gw36 _ (by omega)).trans f16
  have f17 : w36 (76) = ai 2 (fun _ => 0) := (gw36 _ (by omega)).trans f17
  have f18 : w36 (77) = ai 160 (fun _ => 0) := (gw36 _ (by omega)).trans f18
  have hf : fr w w36 (59) (83) := hf.tr (gw36.wide (by omega) (by omega))
  have hk : w36 (59) = ob 7 [.int (nI 0), .ref (60), .ref (61), .ref (62), .ref (63), .ref (64), .ref (65), .ref (66), .ref (67), .ref (68), .ref (69), .ref (70), .ref (71), .ref (72), .ref (73), .ref (74), .ref (75), .int (nI 0), .int (nI 0), .ref (76), .ref (77), .null, .null, .null, .null, .null] := by rw [hw36]; exact va_upd_self _ _ _
  refine ww_aload0 C dX7_init_148 ?_
  refine ww_bipush C (v := nI 8) dX7_init_149 (by decide) ?_
  refine ww_newI C (m0 := 8) (by decide) (by omega) (Nat.le_of_ble_eq_true rfl) (Nat.le_of_ble_eq_true rfl) dX7_init_151 (fun w37 hw37 => ?_)
  have gw37 : fr w36 w37 (78) (79) := fr.up hw37 (by omega) (by omega)
  have f1 : w37 (60) = ai 400 (fun _ => 0) := (gw37 _ (by omega)).trans f1
  have f2 : w37 (61) = ai 2 (fun _ => 0) := (gw37 _ (by omega)).trans f2
  have f3 : w37 (62) = ai 16 (fun _ => 0) := (gw37 _ (by omega)).trans f3
  have f4 : w37 (63) = ai 16 (fun _ => 0) := (gw37 _ (by omega)).trans f4
  have f5 : w37 (64) = ai 96 (fun _ => 0) := (gw37 _ (by omega)).trans f5
  have f6 : w37 (65) = ai 16 (fun _ => 0) := (gw37 _ (by omega)).trans f6
  have f7 : w37 (66) = ai 16 (fun _ => 0) := (gw37 _ (by omega)).trans f7
  have f8 : w37 (67) = ai 12 (fun _ => 0) := (gw37 _ (by omega)).trans f8
  have f9 : w37 (68) = ai 12 (fun _ => 0) := (gw37 _ (by omega)).trans f9
  have f10 : w37 (69) = ai 12 (fun _ => 0) := (gw37 _ (by omega)).trans f10
  have f11 : w37 (70) = ai 6 (fun _ => 0) := (gw37 _ (by omega)).trans f11
  have f12 : w37 (71) = ai 32 (fun _ => 0) := (gw37 _ (by omega)).trans f12
  have f13 : w37 (72) = ai 32 (fun _ => 0) := (gw37 _ (by omega)).trans f13
  have f14 : w37 (73) = ai 320 (fun _ => 0) := (gw37 _ (by omega)).trans f14
  have f15 : w37 (74) = ai 3 (fun _ => 0) := (gw37 _ (by omega)).trans f15
  have f16 : w37 (75) = ai 36 (fun _ => 0) := (gw37 _ (by omega)).trans f16
  have f17 : w37 (76) = ai 2 (fun _ => 0) := (gw37 _ (by omega)).trans f17
  have f18 : w37 (77) = ai 160 (fun _ => 0) := (gw37 _ (by omega)).trans f18
  have hk : w37 (59) = ob 7 [.int (nI 0), .ref (60), .ref (61), .ref (62), .ref (63), .ref (64), .ref (65), .ref (66), .ref (67), .ref (68), .ref (69), .ref (70), .ref (71), .ref (72), .ref (73), .ref (74), .ref (75), .int (nI 0), .int (nI 0), .ref (76), .ref (77), .null, .null, .null, .null, .null] := (gw37 _ (by omega)).trans hk
  have hf : fr w w37 (59) (83) := hf.tr (gw37.wide (by omega) (by omega))
  have f19 : w37 (78) = ai 8 (fun _ => 0) := by rw [hw37]; exact va_upd_self _ _ _
  refine ww_putA C hnm fl_X7_64 rfl hk (fs2 := [.int (nI 0), .ref (60), .ref (61), .ref (62), .ref (63), .ref (64), .ref (65), .ref (66), .ref (67), .ref (68), .ref (69), .ref (70), .ref (71), .ref (72), .ref (73), .ref (74), .ref (75), .int (nI 0), .int (nI 0), .ref (76), .ref (77), .ref (78), .null, .null, .null, .null]) (Nat.le_of_ble_eq_true rfl) rfl dX7_init_153 (fun w38 hw38 => ?_)
  have gw38 : fr w37 w38 (59) (60) := fr.up hw38 (by omega) (by omega)
  have f1 : w38 (60) = ai 400 (fun _ => 0) := (gw38 _ (by omega)).trans f1
  have f2 : w38 (61) = ai 2 (fun _ => 0) := (gw38 _ (by omega)).trans f2
  have f3 : w38 (62) = ai 16 (fun _ => 0) := (gw38 _ (by omega)).trans f3
  have f4 : w38 (63) = ai 16 (fun _ => 0) := (gw38 _ (by omega)).trans f4
  have f5 : w38 (64) = ai 96 (fun _ => 0) := (gw38 _ (by omega)).trans f5
  have f6 : w38 (65) = ai 16 (fun _ => 0) := (gw38 _ (by omega)).trans f6
  have f7 : w38 (66) = ai 16 (fun _ => 0) := (gw38 _ (by omega)).trans f7
  have f8 : w38 (67) = ai 12 (fun _ => 0) := (gw38 _ (by omega)).trans f8
  have f9 : w38 (68) = ai 12 (fun _ => 0) := (gw38 _ (by omega)).trans f9
  have f10 : w38 (69) = ai 12 (fun _ => 0) := (gw38 _ (by omega)).trans f10
  have f11 : w38 (70) = ai 6 (fun _ => 0) := (gw38 _ (by omega)).trans f11
  have f12 : w38 (71) = ai 32 (fun _ => 0) := (gw38 _ (by omega)).trans f12
  have f13 : w38 (72) = ai 32 (fun _ => 0) := (gw38 _ (by omega)).trans f13
  have f14 : w38 (73) = ai 320 (fun _ => 0) := (gw38 _ (by omega)).trans f14
  have f15 : w38 (74) = ai 3 (fun _ => 0) := (gw38 _ (by omega)).trans f15
  have f16 : w38 (75) = ai 36 (fun _ => 0) := (gw38 _ (by omega)).trans f16
  have f17 : w38 (76) = ai 2 (fun _ => 0) := (gw38 _ (by omega)).trans f17
  have f18 : w38 (77) = ai 160 (fun _ => 0) := (gw38 _ (by omega)).trans f18
  have f19 : w38 (78) = ai 8 (fun _ => 0) := (gw38 _ (by omega)).trans f19
  have hf : fr w w38 (59) (83) := hf.tr (gw38.wide (by omega) (by omega))
  have hk : w38 (59) = ob 7 [.int (nI 0), .ref (60), .ref (61), .ref (62), .ref (63), .ref (64), .ref (65), .ref (66), .ref (67), .ref (68), .ref (69), .ref (70), .ref (71), .ref (72), .ref (73), .ref (74), .ref (75), .int (nI 0), .int (nI 0), .ref (76), .ref (77), .ref (78), .null, .null, .null, .null] := by rw [hw38]; exact va_upd_self _ _ _
  refine ww_aload0 C dX7_init_156 ?_
  refine ww_bipush C (v := nI 8) dX7_init_157 (by decide) ?_
  refine ww_newI C (m0 := 8) (by decide) (by omega) (Nat.le_of_ble_eq_true rfl) (Nat.le_of_ble_eq_true rfl) dX7_init_159 (fun w39 hw39 => ?_)
  have gw39 : fr w38 w39 (79) (80) := fr.up hw39 (by omega) (by omega)
  have f1 : w39 (60) = ai 400 (fun _ => 0) := (gw39 _ (by omega)).trans f1
  have f2 : w39 (61) = ai 2 (fun _ => 0) := (gw39 _ (by omega)).trans f2
  have f3 : w39 (62) = ai 16 (fun _ => 0) := (gw39 _ (by omega)).trans f3
  have f4 : w39 (63) = ai 16 (fun _ => 0) := (gw39 _ (by omega)).trans f4
  have f5 : w39 (64) = ai 96 (fun _ => 0) := (gw39 _ (by omega)).trans f5
  have f6 : w39 (65) = ai 16 (fun _ => 0) := (gw39 _ (by omega)).trans f6
  have f7 : w39 (66) = ai 16 (fun _ => 0) := (gw39 _ (by omega)).trans f7
  have f8 : w39 (67) = ai 12 (fun _ => 0) := (gw39 _ (by omega)).trans f8
  have f9 : w39 (68) = ai 12 (fun _ => 0) := (gw39 _ (by omega)).trans f9
  have f10 : w39 (69) = ai 12 (fun _ => 0) := (gw39 _ (by omega)).trans f10
  have f11 : w39 (70) = ai 6 (fun _ => 0) := (gw39 _ (by omega)).trans f11
  have f12 : w39 (71) = ai 32 (fun _ => 0) := (gw39 _ (by omega)).trans f12
  have f13 : w39 (72) = ai 32 (fun _ => 0) := (gw39 _ (by omega)).trans f13
  have f14 : w39 (73) = ai 320 (fun _ => 0) := (gw39 _ (by omega)).trans f14
  have f15 : w39 (74) = ai 3 (fun _ => 0) := (gw39 _ (by omega)).trans f15
  have f16 : w39 (75) = ai 36 (fun _ => 0) := (gw39 _ (by omega)).trans f16
  have f17 : w39 (76) = ai 2 (fun _ => 0) := (gw39 _ (by omega)).trans f17
  have f18 : w39 (77) = ai 160 (fun _ => 0) := (gw39 _ (by omega)).trans f18
  have f19 : w39 (78) = ai 8 (fun _ => 0) := (gw39 _ (by omega)).trans f19
  have hk : w39 (59) = ob 7 [.int (nI 0), .ref (60), .ref (61), .ref (62), .ref (63), .ref (64), .ref (65), .ref (66), .ref (67), .ref (68), .ref (69), .ref (70), .ref (71), .ref (72), .ref (73), .ref (74), .ref (75), .int (nI 0), .int (nI 0), .ref (76), .ref (77), .ref (78), .null, .null, .null, .null] := (gw39 _ (by omega)).trans hk
  have hf : fr w w39 (59) (83) := hf.tr (gw39.wide (by omega) (by omega))
  have f20 : w39 (79) = ai 8 (fun _ => 0) := by rw [hw39]; exact va_upd_self _ _ _
  refine ww_putA C hnm fl_X7_67 rfl hk (fs2 := [.int (nI 0), .ref (60), .ref (61), .ref (62), .ref (63), .ref (64), .ref (65), .ref (66), .ref (67), .ref (68), .ref (69), .ref (70), .ref (71), .ref (72), .ref (73), .ref (74), .ref (75), .int (nI 0), .int (nI 0), .ref (76), .ref (77), .ref (78), .ref (79), .null, .null, .null]) (Nat.le_of_ble_eq_true rfl) rfl dX7_init_161 (fun w40 hw40 => ?_)
  have gw40 : fr w39 w40 (59) (60) := fr.up hw40 (by omega) (by omega)
  have f1 : w40 (60) = ai 400 (fun _ => 0) := (gw40 _ (by omega)).trans f1
  have f2 : w40 (61) = ai 2 (fun _ => 0) := (gw40 _ (by omega)).trans f2
  have f3 : w40 (62) = ai 16 (fun _ => 0) := (gw40 _ (by omega)).trans f3
  have f4 : w40 (63) = ai 16 (fun _ => 0) := (gw40 _ (by omega)).trans f4
  have f5 : w40 (64) = ai 96 (fun _ => 0) := (gw40 _ (by omega)).trans f5
  have f6 : w40 (65) = ai 16 (fun _ => 0) := (gw40 _ (by omega)).trans f6
  have f7 : w40 (66) = ai 16 (fun _ => 0) := (gw40 _ (by omega)).trans f7
  have f8 : w40 (67) = ai 12 (fun _ => 0) := (gw40 _ (by omega)).trans f8
  have f9 : w40 (68) = ai 12 (fun _ => 0) := (gw40 _ (by omega)).trans f9
  have f10 : w40 (69) = ai 12 (fun _ => 0) := (gw40 _ (by omega)).trans f10
  have f11 : w40 (70) = ai 6 (fun _ => 0) := (gw40 _ (by omega)).trans f11
  have f12 : w40 (71) = ai 32 (fun _ => 0) := (gw40 _ (by omega)).trans f12
  have f13 : w40 (72) = ai 32 (fun _ => 0) := (gw40 _ (by omega)).trans f13
  have f14 : w40 (73) = ai 320 (fun _ => 0) := (gw40 _ (by omega)).trans f14
  have f15 : w40 (74) = ai 3 (fun _ => 0) := (gw40 _ (by omega)).trans f15
  have f16 : w40 (75) = ai 36 (fun _ => 0) := (gw40 _ (by omega)).trans f16
  have f17 : w40 (76) = ai 2 (fun _ => 0) := (gw40 _ (by omega)).trans f17
  have f18 : w40 (77) = ai 160 (fun _ => 0) := (gw40 _ (by omega)).trans f18
  have f19 : w40 (78) = ai 8 (fun _ => 0) := (gw40 _ (by omega)).trans f19
  have f20 : w40 (79) = ai 8 (fun _ => 0) := (gw40 _ (by omega)).trans f20
  have hf : fr w w40 (59) (83) := hf.tr (gw40.wide (by omega) (by omega))
  have hk : w40 (59) = ob 7 [.int (nI 0), .ref (60), .ref (61), .ref (62), .ref (63), .ref (64), .ref (65), .ref (66), .ref (67), .ref (68), .ref (69), .ref (70), .ref (71), .ref (72), .ref (73), .ref (74), .ref (75), .int (nI 0), .int (nI 0), .ref (76), .ref (77), .ref (78), .ref (79), .null, .null, .null] := by rw [hw40]; exact va_upd_self _ _ _
  refine ww_aload0 C dX7_init_164 ?_
  refine ww_sipush C (v := nI 256) dX7_init_165 (by decide) ?_
  refine ww_newI C (m0 := 256) (by decide) (by omega) (Nat.le_of_ble_eq_true rfl) (Nat.le_of_ble_eq_true rfl) dX7_init_168 (fun w41 hw41 => ?_)
  have gw41 : fr w40 w41 (80) (81) := fr.up hw41 (by omega) (by omega)
  have f1 : w41 (60) = ai 400 (fun _ => 0) := (gw41 _ (by omega)).trans f1
  have f2 : w41 (61) = ai 2 (fun _ => 0) := (gw41 _ (by omega)).trans f2
  have f3 : w41 (62) = ai 16 (fun _ => 0) := (gw41 _ (by omega)).trans f3
  have f4 : w41 (63) = ai 16 (fun _ => 0) := (gw41 _ (by omega)).trans f4
  have f5 : w41 (64) = ai 96 (fun _ => 0) := (gw41 _ (by omega)).trans f5
  have f6 : w41 (65) = ai 16 (fun _ => 0) := (gw41 _ (by omega)).trans f6
  have f7 : w41 (66) = ai 16 (fun _ => 0) := (gw41 _ (by omega)).trans f7
  have f8 : w41 (67) = ai 12 (fun _ => 0) := (gw41 _ (by omega)).trans f8
  have f9 : w41 (68) = ai 12 (fun _ => 0) := (gw41 _ (by omega)).trans f9
  have f10 : w41 (69) = ai 12 (fun _ => 0) := (gw41 _ (by omega)).trans f10
  have f11 : w41 (70) = ai 6 (fun _ => 0) := (gw41 _ (by omega)).trans f11
  have f12 : w41 (71) = ai 32 (fun _ => 0) := (gw41 _ (by omega)).trans f12
  have f13 : w41 (72) = ai 32 (fun _ => 0) := (gw41 _ (by omega)).trans f13
  have f14 : w41 (73) = ai 320 (fun _ => 0) := (gw41 _ (by omega)).trans f14
  have f15 : w41 (74) = ai 3 (fun _ => 0) := (gw41 _ (by omega)).trans f15
  have f16 : w41 (75) = ai 36 (fun _ => 0) := (gw41 _ (by omega)).trans f16
  have f17 : w41 (76) = ai 2 (fun _ => 0) := (gw41 _ (by omega)).trans f17
  have f18 : w41 (77) = ai 160 (fun _ => 0) := (gw41 _ (by omega)).trans f18
  have f19 : w41 (78) = ai 8 (fun _ => 0) := (gw41 _ (by omega)).trans f19
  have f20 : w41 (79) = ai 8 (fun _ => 0) := (gw41 _ (by omega)).trans f20
  have hk : w41 (59) = ob 7 [.int (nI 0), .ref (60), .ref (61), .ref (62), .ref (63), .ref (64), .ref (65), .ref (66), .ref (67), .ref (68), .ref (69), .ref (70), .ref (71), .ref (72), .ref (73), .ref (74), .ref (75), .int (nI 0), .int (nI 0), .ref (76), .ref (77), .ref (78), .ref (79), .null, .null, .null] := (gw41 _ (by omega)).trans hk
  have hf : fr w w41 (59) (83) := hf.tr (gw41.wide (by omega) (by omega))
  have f21 : w41 (80) = ai 256 (fun _ => 0) := by rw [hw41]; exact va_upd_self _ _ _
  refine ww_putA C hnm fl_X7_70 rfl hk (fs2 := [.int (nI 0), .ref (60), .ref (61), .ref (62), .ref (63), .ref (64), .ref (65), .ref (66), .ref (67), .ref (68), .ref (69), .ref (70), .ref (71), .ref (72), .ref (73), .ref (74), .ref (75), .int (nI 0), .int (nI 0), .ref (76), .ref (77), .ref (78), .ref (79), .ref (80), .null, .null]) (Nat.le_of_ble_eq_true rfl) rfl dX7_init_170 (fun w42 hw42 => ?_)
  have gw42 : fr w41 w42 (59) (60) := fr.up hw42 (by omega) (by omega)
  have f1 : w42 (60) = ai 400 (fun _ => 0) := (gw42 _ (by omega)).trans f1
  have f2 : w42 (61) = ai 2 (fun _ => 0) := (gw42 _ (by omega)).trans f2
  have f3 : w42 (62) = ai 16 (fun _ => 0) := (gw42 _ (by omega)).trans f3
  have f4 : w42 (63) = ai 16 (fun _ => 0) := (gw42 _ (by omega)).trans f4
  have f5 : w42 (64) = ai 96 (fun _ => 0) := (gw42 _ (by omega)).trans f5
  have f6 : w42 (65) = ai 16 (fun _ => 0) := (gw42 _ (by omega)).trans f6
  have f7 : w42 (66) = ai 16 (fun _ => 0) := (gw42 _ (by omega)).trans f7
  have f8 : w42 (67) = ai 12 (fun _ => 0) := (gw42 _ (by omega)).trans f8
  have f9 : w42 (68) = ai 12 (fun _ => 0) := (gw42 _ (by omega)).trans f9
  have f10 : w42 (69) = ai 12 (fun _ => 0) := (gw42 _ (by omega)).trans f10
  have f11 : w42 (70) = ai 6 (fun _ => 0) := (gw42 _ (by omega)).trans f11
  have f12 : w42 (71) = ai 32 (fun _ => 0) := (gw42 _ (by omega)).trans f12
  have f13 : w42 (72) = ai 32 (fun _ => 0) := (gw42 _ (by omega)).trans f13
  have f14 : w42 (73) = ai 320 (fun _ => 0) := (gw42 _ (by omega)).trans f14
  have f15 : w42 (74) = ai 3 (fun _ => 0) := (gw42 _ (by omega)).trans f15
  have f16 : w42 (75) = ai 36 (fun _ => 0) := (gw42 _ (by omega)).trans f16
  have f17 : w42 (76) = ai 2 (fun _ => 0) := (gw42 _ (by omega)).trans f17
  have f18 : w42 (77) = ai 160 (fun _ => 0) := (gw42 _ (by omega)).trans f18
  have f19 : w42 (78) = ai 8 (fun _ => 0) := (gw42 _ (by omega)).trans f19
  have f20 : w42 (79) = ai 8 (fun _ => 0) := (gw42 _ (by omega)).trans f20
  have f21 : w42 (80) = ai 256 (fun _ => 0) := (gw42 _ (by omega)).trans f21
  have hf : fr w w42 (59) (83) := hf.tr (gw42.wide (by omega) (by omega))
  have hk : w42 (59) = ob 7 [.int (nI 0), .ref (60), .ref (61), .ref (62), .ref (63), .ref (64), .ref (65), .ref (66), .ref (67), .ref (68), .ref (69), .ref (70), .ref (71), .ref (72), .ref (73), .ref (74), .ref (75), .int (nI 0), .int (nI 0), .ref (76), .ref (77), .ref (78), .ref (79), .ref (80), .null, .null] := by rw [hw42]; exact va_upd_self _ _ _
  refine ww_aload0 C dX7_init_173 ?_
  refine ww_sipush C (v := nI 256) dX7_init_174 (by decide) ?_
  refine ww_newI C (m0 := 256) (by decide) (by omega) (Nat.le_of_ble_eq_true rfl) (Nat.le_of_ble_eq_true rfl) dX7_init_177 (fun w43 hw43 => ?_)
  have gw43 : fr w42 w43 (81) (82) := fr.up hw43 (by omega) (by omega)
  have f1 : w43 (60) = ai 400 (fun _ => 0) := (gw43 _ (by omega)).trans f1
  have f2 : w43 (61) = ai 2 (fun _ => 0) := (gw43 _ (by omega)).trans f2
  have f3 : w43 (62) = ai 16 (fun _ => 0) := (gw43 _ (by omega)).trans f3
  have f4 : w43 (63) = ai 16 (fun _ => 0) := (gw43 _ (by omega)).trans f4
  have f5 : w43 (64) = ai 96 (fun _ => 0) := (gw43 _ (by omega)).trans f5
  have f6 : w43 (65) = ai 16 (fun _ => 0) := (gw43 _ (by omega)).trans f6
  have f7 : w43 (66) = ai 16 (fun _ => 0) := (gw43 _ (by omega)).trans f7
  have f8 : w43 (67) = ai 12 (fun _ => 0) := (gw43 _ (by omega)).trans f8
  have f9 : w43 (68) = ai 12 (fun _ => 0) := (gw43 _ (by omega)).trans f9
  have f10 : w43 (69) = ai 12 (fun _ => 0) := (gw43 _ (by omega)).trans f10
  have f11 : w43 (70) = ai 6 (fun _ => 0) := (gw43 _ (by omega)).trans f11
  have f12 : w43 (71) = ai 32 (fun _ => 0) := (gw43 _ (by omega)).trans f12
  have f13 : w43 (72) = ai 32 (fun _ => 0) := (gw43 _ (by omega)).trans f13
  have f14 : w43 (73) = ai 320 (fun _ => 0) := (gw43 _ (by omega)).trans f14
  have f15 : w43 (74) = ai 3 (fun _ => 0) := (gw43 _ (by omega)).trans f15
  have f16 : w43 (75) = ai 36 (fun _ => 0) := (gw43 _ (by omega)).trans f16
  have f17 : w43 (76) = ai 2 (fun _ => 0) := (gw43 _ (by omega)).trans f17
  have f18 : w43 (77) = ai 160 (fun _ => 0) := (gw43 _ (by omega)).trans f18
  have f19 : w43 (78) = ai 8 (fun _ => 0) := (gw43 _ (by omega)).trans f19
  have f20 : w43 (79) = ai 8 (fun _ => 0) := (gw43 _ (by omega)).trans f20
  have f21 : w43 (80) = ai 256 (fun _ => 0) := (gw43 _ (by omega)).trans f21
  have hk : w43 (59) = ob 7 [.int (nI 0), .ref (60), .ref (61), .ref (62), .ref (63), .ref (64), .ref (65), .ref (66), .ref (67), .ref (68), .ref (69), .ref (70), .ref (71), .ref (72), .ref (73), .ref (74), .ref (75), .int (nI 0), .int (nI 0), .ref (76), .ref (77), .ref (78), .ref (79), .ref (80), .null, .null] := (gw43 _ (by omega)).trans hk
  have hf : fr w w43 (59) (83) := hf.tr (gw43.wide (by omega) (by omega))
  have f22 : w43 (81) = ai 256 (fun _ => 0) := by rw [hw43]; exact va_upd_self _ _ _
  refine ww_putA C hnm fl_X7_73 rfl hk (fs2 := [.int (nI 0), .ref (60), .ref (61), .ref (62), .ref (63), .ref (64), .ref (65), .ref (66), .ref (67), .ref (68), .ref (69), .ref (70), .ref (71), .ref (72), .ref (73), .ref (74), .ref (75), .int (nI 0), .int (nI 0), .ref (76), .ref (77), .ref (78), .ref (79), .ref (80), .ref (81), .null]) (Nat.le_of_ble_eq_true rfl) rfl dX7_init_179 (fun w44 hw44 => ?_)
  have gw44 : fr w43 w44 (59) (60) := fr.up hw44 (by omega) (by omega)
  have f1 : w44 (60) = ai 400 (fun _ => 0) := (gw44 _ (by omega)).trans f1
  have f2 : w44 (61) = ai 2 (fun _ => 0) := (gw44 _ (by omega)).trans f2
  have f3 : w44 (62) = ai 16 (fun _ => 0) := (gw44 _ (by omega)).trans f3
  have f4 : w44 (63) = ai 16 (fun _ => 0) := (gw44 _ (by omega)).trans f4
  have f5 : w44 (64) = ai 96 (fun _ => 0) := (gw44 _ (by omega)).trans f5
  have f6 : w44 (65) = ai 16 (fun _ => 0) := (gw44 _ (by omega)).trans f6
  have f7 : w44 (66) = ai 16 (fun _ => 0) := (gw44 _ (by omega)).trans f7
  have f8 : w44 (67) = ai 12 (fun _ => 0) := (gw44 _ (by omega)).trans f8
  have f9 : w44 (68) = ai 12 (fun _ => 0) := (gw44 _ (by omega)).trans f9
  have f10 : w44 (69) = ai 12 (fun _ => 0) := (gw44 _ (by omega)).trans f10
  have f11 : w44 (70) = ai 6 (fun _ => 0) := (gw44 _ (by omega)).trans f11
  have f12 : w44 (71) = ai 32 (fun _ => 0) := (gw44 _ (by omega)).trans f12
  have f13 : w44 (72) = ai 32 (fun _ => 0) := (gw44 _ (by omega)).trans f13
  have f14 : w44 (73) = ai 320 (fun _ => 0) := (gw44 _ (by omega)).trans f14
  have f15 : w44 (74) = ai 3 (fun _ => 0) := (gw44 _ (by omega)).trans f15
  have f16 : w44 (75) = ai 36 (fun _ => 0) := (gw44 _ (by omega)).trans f16
  have f17 : w44 (76) = ai 2 (fun _ => 0) := (gw44 _ (by omega)).trans f17
  have f18 : w44 (77) = ai 160 (fun _ => 0) := (gw44 _ (by omega)).trans f18
  have f19 : w44 (78) = ai 8 (fun _ => 0) := (gw44 _ (by omega)).trans f19
  have f20 : w44 (79) = ai 8 (fun _ => 0) := (gw44 _ (by omega)).trans f20
  have f21 : w44 (80) = ai 256 (fun _ => 0) := (gw44 _ (by omega)).trans f21
  have f22 : w44 (81) = ai 256 (fun _ => 0) := (gw44 _ (by omega)).trans f22
  have hf : fr w w44 (59) (83) := hf.tr (gw44.wide (by omega) (by omega))
  have hk : w44 (59) = ob 7 [.int (nI 0), .ref (60), .ref (61), .ref (62), .ref (63), .ref (64), .ref (65), .ref (66), .ref (67), .ref (68), .ref (69), .ref (70), .ref (71), .ref (72), .ref (73), .ref (74), .ref (75), .int (nI 0), .int (nI 0), .ref (76), .ref (77), .ref (78), .ref (79), .ref (80), .ref (81), .null] := by rw [hw44]; exact va_upd_self _ _ _
  refine ww_aload0 C dX7_init_182 ?_
  refine ww_sipush C (v := nI 3328) dX7_init_183 (by decide) ?_
  refine ww_newI C (m0 := 3328) (by decide) (by omega) (Nat.le_of_ble_eq_true rfl) (Nat.le_of_ble_eq_true rfl) dX7_init_186 (fun w45 hw45 => ?_)
  have gw45 : fr w44 w45 (82) (83) := fr.up hw45 (by omega) (by omega)
  have f1 : w45 (60) = ai 400 (fun _ => 0) := (gw45 _ (by omega)).trans f1
  have f2 : w45 (61) = ai 2 (fun _ => 0) := (gw45 _ (by omega)).trans f2
  have f3 : w45 (62) = ai 16 (fun _ => 0) := (gw45 _ (by omega)).trans f3
  have f4 : w45 (63) = ai 16 (fun _ => 0) := (gw45 _ (by omega)).trans f4
  have f5 : w45 (64) = ai 96 (fun _ => 0) := (gw45 _ (by omega)).trans f5
  have f6 : w45 (65) = ai 16 (fun _ => 0) := (gw45 _ (by omega)).trans f6
  have f7 : w45 (66) = ai 16 (fun _ => 0) := (gw45 _ (by omega)).trans f7
  have f8 : w45 (67) = ai 12 (fun _ => 0) := (gw45 _ (by omega)).trans f8
  have f9 : w45 (68) = ai 12 (fun _ => 0) := (gw45 _ (by omega)).trans f9
  have f10 : w45 (69) = ai 12 (fun _ => 0) := (gw45 _ (by omega)).trans f10
  have f11 : w45 (70) = ai 6 (fun _ => 0) := (gw45 _ (by omega)).trans f11
  have f12 : w45 (71) = ai 32 (fun _ => 0) := (gw45 _ (by omega)).trans f12
  have f13 : w45 (72) = ai 32 (fun _ => 0) := (gw45 _ (by omega)).trans f13
  have f14 : w45 (73) = ai 320 (fun _ => 0) := (gw45 _ (by omega)).trans f14
  have f15 : w45 (74) = ai 3 (fun _ => 0) := (gw45 _ (by omega)).trans f15
  have f16 : w45 (75) = ai 36 (fun _ => 0) := (gw45 _ (by omega)).trans f16
  have f17 : w45 (76) = ai 2 (fun _ => 0) := (gw45 _ (by omega)).trans f17
  have f18 : w45 (77) = ai 160 (fun _ => 0) := (gw45 _ (by omega)).trans f18
  have f19 : w45 (78) = ai 8 (fun _ => 0) := (gw45 _ (by omega)).trans f19
  have f20 : w45 (79) = ai 8 (fun _ => 0) := (gw45 _ (by omega)).trans f20
  have f21 : w45 (80) = ai 256 (fun _ => 0) := (gw45 _ (by omega)).trans f21
  have f22 : w45 (81) = ai 256 (fun _ => 0) := (gw45 _ (by omega)).trans f22
  have hk : w45 (59) = ob 7 [.int (nI 0), .ref (60), .ref (61), .ref (62), .ref (63), .ref (64), .ref (65), .ref (66), .ref (67), .ref (68), .ref (69), .ref (70), .ref (71), .ref (72), .ref (73), .ref (74), .ref (75), .int (nI 0), .int (nI 0), .ref (76), .ref (77), .ref (78), .ref (79), .ref (80), .ref (81), .null] := (gw45 _ (by omega)).trans hk
  have hf : fr w w45 (59) (83) := hf.tr (gw45.wide (by omega) (by omega))
  have f23 : w45 (82) = ai 3328 (fun _ => 0) := by rw [hw45]; exact va_upd_self _ _ _
  refine ww_putA C hnm fl_X7_76 rfl hk (fs2 := [.int (nI 0), .ref (60), .ref (61), .ref (62), .ref (63), .ref (64), .ref (65), .ref (66), .ref (67), .ref (68), .ref (69), .ref (70), .ref (71), .ref (72), .ref (73), .ref (74), .ref (75), .int (nI 0), .int (nI 0), .ref (76), .ref (77), .ref (78), .ref (79), .ref (80), .ref (81), .ref (82)]) (Nat.le_of_ble_eq_true rfl) rfl dX7_init_188 (fun w46 hw46 => ?_)
  have gw46 : fr w45 w46 (59) (60) := fr.up hw46 (by omega) (by omega)
  have f1 : w46 (60) = ai 400 (fun _ => 0) := (gw46 _ (by omega)).trans f1
  have f2 : w46 (61) = ai 2 (fun _ => 0) := (gw46 _ (by omega)).trans f2
  have f3 : w46 (62) = ai 16 (fun _ => 0) := (gw46 _ (by omega)).trans f3
  have f4 : w46 (63) = ai 16 (fun _ => 0) := (gw46 _ (by omega)).trans f4
  have f5 : w46 (64) = ai 96 (fun _ => 0) := (gw46 _ (by omega)).trans f5
  have f6 : w46 (65) = ai 16 (fun _ => 0) := (gw46 _ (by omega)).trans f6
  have f7 : w46 (66) = ai 16 (fun _ => 0) := (gw46 _ (by omega)).trans f7
  have f8 : w46 (67) = ai 12 (fun _ => 0) := (gw46 _ (by omega)).trans f8
  have f9 : w46 (68) = ai 12 (fun _ => 0) := (gw46 _ (by omega)).trans f9
  have f10 : w46 (69) = ai 12 (fun _ => 0) := (gw46 _ (by omega)).trans f10
  have f11 : w46 (70) = ai 6 (fun _ => 0) := (gw46 _ (by omega)).trans f11
  have f12 : w46 (71) = ai 32 (fun _ => 0) := (gw46 _ (by omega)).trans f12
  have f13 : w46 (72) = ai 32 (fun _ => 0) := (gw46 _ (by omega)).trans f13
  have f14 : w46 (73) = ai 320 (fun _ => 0) := (gw46 _ (by omega)).trans f14
  have f15 : w46 (74) = ai 3 (fun _ => 0) := (gw46 _ (by omega)).trans f15
  have f16 : w46 (75) = ai 36 (fun _ => 0) := (gw46 _ (by omega)).trans f16
  have f17 : w46 (76) = ai 2 (fun _ => 0) := (gw46 _ (by omega)).trans f17
  have f18 : w46 (77) = ai 160 (fun _ => 0) := (gw46 _ (by omega)).trans f18
  have f19 : w46 (78) = ai 8 (fun _ => 0) := (gw46 _ (by omega)).trans f19
  have f20 : w46 (79) = ai 8 (fun _ => 0) := (gw46 _ (by omega)).trans f20
  have f21 : w46 (80) = ai 256 (fun _ => 0) := (gw46 _ (by omega)).trans f21
  have f22 : w46 (81) = ai 256 (fun _ => 0) := (gw46 _ (by omega)).trans f22
  have f23 : w46 (82) = ai 3328 (fun _ => 0) := (gw46 _ (by omega)).trans f23
  have hf : fr w w46 (59) (83) := hf.tr (gw46.wide (by omega) (by omega))
  have hk : w46 (59) = ob 7 [.int (nI 0), .ref (60), .ref (61), .ref (62), .ref (63), .ref (64), .ref (65), .ref (66), .ref (67), .ref (68), .ref (69), .ref (70), .ref (71), .ref (72), .ref (73), .ref (74), .ref (75), .int (nI 0), .int (nI 0), .ref (76), .ref (77), .ref (78), .ref (79), .ref (80), .ref (81), .ref (82)] := by rw [hw46]; exact va_upd_self _ _ _
  have hM : MO w46 (fun _ _ => 0) 0 0 0 := ⟨hk, fun a ha => by
    rcases (show a = 0 ∨ a = 1 ∨ a = 2 ∨ a = 3 ∨ a = 4 ∨ a = 5 ∨ a = 6 ∨ a = 7 ∨ a = 8 ∨ a = 9 ∨ a = 10 ∨ a = 11 ∨ a = 12 ∨ a = 13 ∨ a = 14 ∨ a = 15 ∨ a = 16 ∨ a = 17 ∨ a = 18 ∨ a = 19 ∨ a = 20 ∨ a = 21 ∨ a = 22 by omega) with rfl | rfl | rfl | rfl | rfl | rfl | rfl | rfl | rfl | rfl | rfl | rfl | rfl | rfl | rfl | rfl | rfl | rfl | rfl | rfl | rfl | rfl | rfl
    · exact f1
    · exact f2
    · exact f3
    · exact f4
    · exact f5
    · exact f6
    · exact f7
    · exact f8
    · exact f9
    · exact f10
    · exact f11
    · exact f12
    · exact f13
    · exact f14
    · exact f15
    · exact f16
    · exact f17
    · exact f18
    · exact f19
    · exact f20
    · exact f21
    · exact f22
    · exact f23⟩
  refine ww_aload0 C dX7_init_191 ?_
  refine ww_iconst C (v := nI 0) dX7_init_192 (by decide) ?_
  refine ww_cV10q C hM.1 rfl (m_noHill g 83 w46 hM (bk := 0) (by decide)) kV_X7_79 ⟨Nat.le_of_ble_eq_true rfl, Nat.le_of_ble_eq_true rfl⟩ ⟨rfl, rfl⟩ ⟨Nat.le_of_ble_eq_true rfl, Nat.le_of_ble_eq_true rfl⟩ (Nat.le_of_ble_eq_true rfl) dX7_init_193 (fun w47 hw47 => ?_)
  obtain ⟨B0, hM, hf1, hNH⟩ := hw47
  have hf := hf.tr hf1
  refine ww_aload0 C dX7_init_196 ?_
  refine ww_getf C fl_X7_13 hM.1 rfl dX7_init_197 ?_
  refine ww_iconst C (v := nI 0) dX7_init_200 (by decide) ?_
  refine ww_iconst C (v := nI 1) dX7_init_201 (by decide) ?_
  refine ww_iastN C hM.a1 (by decide) dX7_init_202 (kk := fun w48 hw48 => ?_)
  have hf : fr w w48 59 83 := hf.tr (fr.up hw48 (by omega) (by omega))
  obtain ⟨A48, hM, e48, o48⟩ := hM.st 1 (by decide) hw48
  refine ww_aload0 C dX7_init_203 ?_
  refine ww_getf C fl_X7_19 hM.1 rfl dX7_init_204 ?_
  refine ww_iconst C (v := nI 0) dX7_init_207 (by decide) ?_
  refine ww_iconst C (v := nI 2) dX7_init_208 (by decide) ?_
  refine ww_iastN C hM.a3 (by decide) dX7_init_209 (kk := fun w49 hw49 => ?_)
  have hf : fr w w49 59 83 := hf.tr (fr.up hw49 (by omega) (by omega))
  obtain ⟨A49, hM, e49, o49⟩ := hM.st 3 (by decide) hw49
  refine ww_aload0 C dX7_init_210 ?_
  refine ww_getf C fl_X7_22 hM.1 rfl dX7_init_211 ?_
  refine ww_iconst C (v := nI 1) dX7_init_214 (by decide) ?_
  refine ww_iconst C (v := nI 1) dX7_init_215 (by decide) ?_
  refine ww_iastN C hM.a4 (by decide) dX7_init_216 (kk := fun w50 hw50 => ?_)
  have hf : fr w w50 59 83 := hf.tr (fr.up hw50 (by omega) (by omega))
  obtain ⟨A50, hM, e50, o50⟩ := hM.st 4 (by decide) hw50
  refine ww_aload0 C dX7_init_217 ?_
  refine ww_getf C fl_X7_25 hM.1 rfl dX7_init_218 ?_
  refine ww_iconst C (v := nI 0) dX7_init_221 (by decide) ?_
  refine ww_iconst C (v := nI 5) dX7_init_222 (by decide) ?_
  refine ww_iastN C hM.a5 (by decide) dX7_init_223 (kk := fun w51 hw51 => ?_)
  have hf : fr w w51 59 83 := hf.tr (fr.up hw51 (by omega) (by omega))
  obtain ⟨A51, hM, e51, o51⟩ := hM.st 5 (by decide) hw51
  refine ww_aload0 C dX7_init_224 ?_
  refine ww_cV00q C hM.1 rfl (m_layHill g 83 w51 hM) kV_X7_83 ⟨Nat.le_of_ble_eq_true rfl, Nat.le_of_ble_eq_true rfl⟩ ⟨rfl, rfl⟩ ⟨Nat.le_of_ble_eq_true rfl, Nat.le_of_ble_eq_true rfl⟩ (Nat.le_of_ble_eq_true rfl) dX7_init_225 (fun w52 hw52 => ?_)
  obtain ⟨Z, hM, hf9, hZo, hZ1, hZ14⟩ := hw52
  have hf := hf.tr hf9
  exact ww_rvq C dX7_init_228 rfl ⟨Nat.le_of_ble_eq_true rfl, Nat.le_of_ble_eq_true rfl⟩ ⟨⟨Z, 0, hM, new_rl hNH e48 o48 e49 o49 e50 o50 e51 o51 hZo hZ1 hZ14⟩, hf⟩
