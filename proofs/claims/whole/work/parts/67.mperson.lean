theorem m_personItem (g : Gx) (n : Nat) (w : Wd) {A : Nat → Nat → Nat} {len pl km : Nat} (hM : MO w A len pl km) {t : Nat → Nat} (ht : ∀ j, j < len → A 0 j = t j) (ht256 : ∀ j, t j < 256) (hl4 : len ≤ 400) (hpl : pl ≤ 400) {h : Hs} (hDR : DR A h) : CT g yX7_personItem cX7_personItem 3 (some .boolean) rm_X7_personItem n n w [.ref 59] (Rq (.int (bz (itP t len pl h).isSome)) (fun w1 => ∃ B P, MO w1 B len P km ∧ fr w w1 59 83 ∧ Sm B A ∧ P ≤ 400 ∧ ∀ r, itP t len pl h = some r → P = r.1 ∧ DR B r.2)) := by
  have hf : fr w w 59 83 := fr.rf
  have hSm : Sm A A := Sm.rf A
  have hp8 := hDR.2.1
  refine CT.start [some (.ref 59), none, none] (by decide +kernel) rfl (Nat.le_of_ble_eq_true rfl) (fun x C hnm => ?_)
  refine ww_bipush C (v := nI 8) dX7_personItem_0 (by decide) ?_
  refine ww_aload0 C dX7_personItem_2 ?_
  refine ww_getf C fl_X7_13 hM.1 rfl dX7_personItem_3 ?_
  refine ww_iconst C (v := nI 1) dX7_personItem_6 (by decide) ?_
  refine ww_ialdN C hM.a1 (by decide) dX7_personItem_7 (kk := ?_)
  rw [hDR.1]
  refine ww_iaddN C dX7_personItem_8 ?_
  refine ww_istore1 C dX7_personItem_9 (by decide) rfl ?_
  refine ww_aload0 C dX7_personItem_10 ?_
  refine ww_iconst C (v := nI 1) dX7_personItem_11 (by decide) ?_
  refine ww_bipush C (v := nI 44) dX7_personItem_12 (by decide) ?_
  refine ww_cV2vq C hM.1 rfl (m_figures g n w hM (t := t) (fun j hj => (congrFun hSm.1 j).trans (ht j hj)) ht256 hl4 (by omega) (c := 1) (sep := 44) (Or.inl rfl) (Or.inl rfl)) kV_X7_111 ⟨Nat.le_of_ble_eq_true rfl, Nat.le_of_ble_eq_true rfl⟩ ⟨rfl, rfl⟩ ⟨Nat.le_of_ble_eq_true rfl, Nat.le_of_ble_eq_true rfl⟩ (Nat.le_of_ble_eq_true rfl) dX7_personItem_14 (fun w1 hw1 => ?_)
  obtain ⟨F1, P1, hM, hf1, hF1, hP1, hI1⟩ := hw1
  have hf := hf.tr hf1
  have hSm := hSm.tr (Sm.all (fun b hb => hF1 b (by omega)))
  refine ww_ifeqB C (tgt := 41) dX7_personItem_17 (by decide) (fun c17 => ?_) (fun c17 => ?_)
  · skip
    have n1 := fg1_no c17
    refine ww_iconst C (v := nI 0) dX7_personItem_41 (by decide) ?_
    exact ww_rzq C dX7_personItem_42 rfl ⟨Nat.le_of_ble_eq_true rfl, Nat.le_of_ble_eq_true rfl⟩ (by have hno : itP t len pl h = none := (itP_1 (num_none n1)); rw [hno]; rfl) ⟨_, _, hM, hf, hSm, by omega, fun r hr => by have hno : itP t len pl h = none := (itP_1 (num_none n1)); rw [hno] at hr; cases hr⟩
  · skip
    have n1 := (hI1 c17).one
    have l1 := (numR_le n1).2.1
    refine ww_aload0 C dX7_personItem_20 ?_
    refine ww_getf C fl_X7_13 hM.1 rfl dX7_personItem_21 ?_
    refine ww_iconst C (v := nI 1) dX7_personItem_24 (by decide) ?_
    refine ww_ialdN C hM.a1 (by decide) dX7_personItem_25 (kk := ?_)
    rw [show F1 1 1 = h.2.2.2.1 from (congrFun (hF1 1 (by decide)) 1).trans hDR.1]
    refine ww_bipush C (v := nI 8) dX7_personItem_26 (by decide) ?_
    refine ww_icmpeqN C (by omega) (tgt := 41) dX7_personItem_28 (by decide) (fun c28 => ?_) (fun c28 => ?_)
    · skip
      refine ww_iconst C (v := nI 0) dX7_personItem_41 (by decide) ?_
      exact ww_rzq C dX7_personItem_42 rfl ⟨Nat.le_of_ble_eq_true rfl, Nat.le_of_ble_eq_true rfl⟩ (by have hno : itP t len pl h = none := (itP_8 c28); rw [hno]; rfl) ⟨_, _, hM, hf, hSm, by omega, fun r hr => by have hno : itP t len pl h = none := (itP_8 c28); rw [hno] at hr; cases hr⟩
    · skip
      refine ww_aload0 C dX7_personItem_31 ?_
      refine ww_getf C fl_X7_58 hM.1 rfl dX7_personItem_32 ?_
      refine ww_iconst C (v := nI 0) dX7_personItem_35 (by decide) ?_
      refine ww_ialdN C hM.a16 (by decide) dX7_personItem_36 (kk := ?_)
      refine ww_iconst C (v := nI 3) dX7_personItem_37 (by decide) ?_
      refine ww_icmpleN C (by have l1 : F1 16 0 ≤ 999 := l1; omega) (tgt := 43) dX7_personItem_38 (by decide) (fun c38 => ?_) (fun c38 => ?_)
      · skip
        have n1 := num_in n1 (Nat.zero_le _) c38
        have hp7 : h.2.2.2.1 < 8 := by omega
        refine ww_aload0 C dX7_personItem_43 ?_
        refine ww_getf C fl_X7_16 hM.1 rfl dX7_personItem_44 ?_
        refine ww_iload1 C dX7_personItem_47 ?_
        refine ww_aload0 C dX7_personItem_48 ?_
        refine ww_getf C fl_X7_58 hM.1 rfl dX7_personItem_49 ?_
        refine ww_iconst C (v := nI 0) dX7_personItem_52 (by decide) ?_
        refine ww_ialdN C hM.a16 (by decide) dX7_personItem_53 (kk := ?_)
        refine ww_iastN C hM.a2 (by omega) dX7_personItem_54 (kk := fun w2 hw2 => ?_)
        have hf : fr w w2 59 83 := hf.tr (fr.up hw2 (by omega) (by omega))
        obtain ⟨A2, hM, e2, o2⟩ := hM.st 2 (by decide) hw2
        have hSm := hSm.tr (Sm.st e2 o2 (by omega))
        refine ww_iconst C (v := nI 0) dX7_personItem_55 (by decide) ?_
        refine ww_istore2 C dX7_personItem_56 (by decide) rfl ?_
        have lp57 : ∀ (m : Nat) (f : Nat) (D : Nat → Nat → Nat) (u : Wd), f ≤ 6 → 6 < f + m → (∀ q, q < f → dgB t len 53 (P1 + q) = true) → P1 + f ≤ 400 → (∀ b, ¬ b = 4 → D b = A2 b) → (∀ j, j < 6 * (8 + h.2.2.2.1) → D 4 j = A 4 j) → (∀ j, j < f → D 4 (6 * (8 + h.2.2.2.1) + j) = t (P1 + j) - 48) → Sm D A → MO u D len (P1 + f) km → fr w u 59 83 → WW g x 3 0 0 n u 57 [some (.ref 59), some (.int (nI (8 + h.2.2.2.1))), some (.int (nI f))] [] := by
          intro m
          induction m with
          | zero =>
            intro f D u hf0 hm ha hpf hDo hD4 hDn hSm hM hf
            exact absurd hm (by omega)
          | succ m ih57 =>
            intro f D u hf0 hm ha hpf hDo hD4 hDn hSm hM hf
            refine ww_aload0 C dX7_personItem_57 ?_
            refine ww_aload0 C dX7_personItem_58 ?_
            refine ww_getf C fl_X7_98 hM.1 rfl dX7_personItem_59 ?_
            refine ww_cV1v C hM.1 rfl (c_byteAt g n u hM (t := t) (fun j hj => (congrFun hSm.1 j).trans (ht j hj)) hl4 (k := P1 + f) (by omega)) kV_X7_101 ⟨Nat.le_of_ble_eq_true rfl, Nat.le_of_ble_eq_true rfl⟩ ⟨rfl, rfl⟩ ⟨Nat.le_of_ble_eq_true rfl, Nat.le_of_ble_eq_true rfl⟩ (Nat.le_of_ble_eq_true rfl) dX7_personItem_62 ?_
            refine ww_i2lN C (by have := btN_lt (len := len) (q := P1 + f) ht256; omega) dX7_personItem_65 ?_
            refine ww_ldc2 C (v := 48) kc_X7_105 dX7_personItem_66 ?_
            refine ww_topl (show (48 : Int64) = lN 48 by decide) ?_
            refine ww_ldc2 C (v := 53) kc_X7_115 dX7_personItem_69 ?_
            refine ww_topl (show (53 : Int64) = lN 53 by decide) ?_
            refine ww_cS3v C (c_inR g n u _ _ _) kS_X7_88 ⟨Nat.le_of_ble_eq_true rfl, Nat.le_of_ble_eq_true rfl⟩ ⟨rfl, rfl⟩ ⟨Nat.le_of_ble_eq_true rfl, Nat.le_of_ble_eq_true rfl⟩ (Nat.le_of_ble_eq_true rfl) dX7_personItem_72 ?_
            refine ww_topi (show bz _ = bz (dgB t len 53 (P1 + f)) by rw [in_dg ht256 (by decide)]) ?_
            refine ww_ifeqB C (tgt := 122) dX7_personItem_75 (by decide) (fun c75 => ?_) (fun c75 => ?_)
            · skip
              refine ww_iload2 C dX7_personItem_122 ?_
              refine ww_ifeqN C (by omega) (tgt := 139) dX7_personItem_123 (by decide) (fun c123 => ?_) (fun c123 => ?_)
              · skip
                have n2 : namR t len P1 = none := nam_n ha hf0 (Or.inr c75) (Or.inl c123)
                refine ww_iconst C (v := nI 0) dX7_personItem_139 (by decide) ?_
                exact ww_rzq C dX7_personItem_140 rfl ⟨Nat.le_of_ble_eq_true rfl, Nat.le_of_ble_eq_true rfl⟩ (by have hno : itP t len pl h = none := (itP_2 n1 n2); rw [hno]; rfl) ⟨_, _, hM, hf, hSm, by omega, fun r hr => by have hno : itP t len pl h = none := (itP_2 n1 n2); rw [hno] at hr; cases hr⟩
              · skip
                refine ww_aload0 C dX7_personItem_126 ?_
                refine ww_aload0 C dX7_personItem_127 ?_
                refine ww_getf C fl_X7_98 hM.1 rfl dX7_personItem_128 ?_
                refine ww_cV1v C hM.1 rfl (c_byteAt g n u hM (t := t) (fun j hj => (congrFun hSm.1 j).trans (ht j hj)) hl4 (k := P1 + f) (by omega)) kV_X7_101 ⟨Nat.le_of_ble_eq_true rfl, Nat.le_of_ble_eq_true rfl⟩ ⟨rfl, rfl⟩ ⟨Nat.le_of_ble_eq_true rfl, Nat.le_of_ble_eq_true rfl⟩ (Nat.le_of_ble_eq_true rfl) dX7_personItem_131 ?_
                refine ww_bipush C (v := nI 44) dX7_personItem_134 (by decide) ?_
                refine ww_icmpeqN C (by have := btN_lt (len := len) (q := P1 + f) ht256; omega) (tgt := 141) dX7_personItem_136 (by decide) (fun c136 => ?_) (fun c136 => ?_)
                · skip
                  have n2 : namR t len P1 = some (f, P1 + f + 1) := nam_s ha c123 hf0 (Or.inr c75) c136
                  have hlt := (namR_le n2).2.2
                  have hlt : P1 + f + 1 ≤ len := hlt
                  refine ww_aload0 C dX7_personItem_141 ?_
                  refine ww_dup C dX7_personItem_142 rfl ?_
                  refine ww_getf C fl_X7_98 hM.1 rfl dX7_personItem_143 ?_
                  refine ww_iconst C (v := nI 1) dX7_personItem_146 (by decide) ?_
                  refine ww_iaddN C dX7_personItem_147 ?_
                  refine ww_putI C fl_X7_98 hM.1 (Nat.le_of_ble_eq_true rfl) rfl dX7_personItem_148 (fun w3 hw3 => ?_)
                  have hf : fr w w3 59 83 := hf.tr (fr.up hw3 (by omega) (by omega))
                  have hM := hM.setO (len2 := len) (km2 := km) (pl2 := P1 + f + 1) hw3
                  refine ww_aload0 C dX7_personItem_151 ?_
                  refine ww_getf C fl_X7_19 hM.1 rfl dX7_personItem_152 ?_
                  refine ww_iload1 C dX7_personItem_155 ?_
                  refine ww_iload2 C dX7_personItem_156 ?_
                  refine ww_iastN C hM.a3 (by omega) dX7_personItem_157 (kk := fun w4 hw4 => ?_)
                  have hf : fr w w4 59 83 := hf.tr (fr.up hw4 (by omega) (by omega))
                  obtain ⟨A4, hM, e4, o4⟩ := hM.st 3 (by decide) hw4
                  have hSm := hSm.tr (Sm.st e4 o4 (by omega))
                  refine ww_aload0 C dX7_personItem_158 ?_
                  refine ww_iconst C (v := nI 2) dX7_personItem_159 (by decide) ?_
                  refine ww_bipush C (v := nI 59) dX7_personItem_160 (by decide) ?_
                  refine ww_cV2vq C hM.1 rfl (m_figures g n w4 hM (t := t) (fun j hj => (congrFun hSm.1 j).trans (ht j hj)) ht256 hl4 (by omega) (c := 2) (sep := 59) (Or.inr rfl) (Or.inr rfl)) kV_X7_111 ⟨Nat.le_of_ble_eq_true rfl, Nat.le_of_ble_eq_true rfl⟩ ⟨rfl, rfl⟩ ⟨Nat.le_of_ble_eq_true rfl, Nat.le_of_ble_eq_true rfl⟩ (Nat.le_of_ble_eq_true rfl) dX7_personItem_162 (fun w5 hw5 => ?_)
                  obtain ⟨F2, P2, hM, hf2, hF2, hP2, hI2⟩ := hw5
                  have hf := hf.tr hf2
                  have hSm := hSm.tr (Sm.all (fun b hb => hF2 b (by omega)))
                  refine ww_ifeqB C (tgt := 190) dX7_personItem_165 (by decide) (fun c165 => ?_) (fun c165 => ?_)
                  · skip
                    refine ww_iconst C (v := nI 0) dX7_personItem_190 (by decide) ?_
                    exact ww_rzq C dX7_personItem_191 rfl ⟨Nat.le_of_ble_eq_true rfl, Nat.le_of_ble_eq_true rfl⟩ (by have hno : itP t len pl h = none := (itP_3 n1 n2 (it2_no c165)); rw [hno]; rfl) ⟨_, _, hM, hf, hSm, by omega, fun r hr => by have hno : itP t len pl h = none := (itP_3 n1 n2 (it2_no c165)); rw [hno] at hr; cases hr⟩
                  · skip
                    obtain ⟨P3, n3, n4⟩ := (hI2 c165).two
                    have l3 := (numR_le n3).2.1
                    have l4 := (numR_le n4).2.1
                    refine ww_aload0 C dX7_personItem_168 ?_
                    refine ww_getf C fl_X7_58 hM.1 rfl dX7_personItem_169 ?_
                    refine ww_iconst C (v := nI 0) dX7_personItem_172 (by decide) ?_
                    refine ww_ialdN C hM.a16 (by omega) dX7_personItem_173 (kk := ?_)
                    refine ww_bipush C (v := nI 99) dX7_personItem_174 (by decide) ?_
                    refine ww_icmpgtN C (by have l3 : F2 16 0 ≤ 999 := l3; omega) (tgt := 190) dX7_personItem_176 (by decide) (fun c176 => ?_) (fun c176 => ?_)
                    · skip
                      refine ww_iconst C (v := nI 0) dX7_personItem_190 (by decide) ?_
                      exact ww_rzq C dX7_personItem_191 rfl ⟨Nat.le_of_ble_eq_true rfl, Nat.le_of_ble_eq_true rfl⟩ (by have hno : itP t len pl h = none := (itP_3 n1 n2 (Or.inl (num_out n3 (fun q => absurd q.2 (by omega))))); rw [hno]; rfl) ⟨_, _, hM, hf, hSm, by omega, fun r hr => by have hno : itP t len pl h = none := (itP_3 n1 n2 (Or.inl (num_out n3 (fun q => absurd q.2 (by omega))))); rw [hno] at hr; cases hr⟩
                    · skip
                      refine ww_aload0 C dX7_personItem_179 ?_
                      refine ww_getf C fl_X7_58 hM.1 rfl dX7_personItem_180 ?_
                      refine ww_iconst C (v := nI 1) dX7_personItem_183 (by decide) ?_
                      refine ww_ialdN C hM.a16 (by omega) dX7_personItem_184 (kk := ?_)
                      refine ww_bipush C (v := nI 9) dX7_personItem_185 (by decide) ?_
                      refine ww_icmpleN C (by have l4 : F2 16 1 ≤ 999 := l4; omega) (tgt := 192) dX7_personItem_187 (by decide) (fun c187 => ?_) (fun c187 => ?_)
                      · skip
                        refine ww_aload0 C dX7_personItem_192 ?_
                        refine ww_getf C fl_X7_25 hM.1 rfl dX7_personItem_193 ?_
                        refine ww_iload1 C dX7_personItem_196 ?_
                        refine ww_aload0 C dX7_personItem_197 ?_
                        refine ww_getf C fl_X7_58 hM.1 rfl dX7_personItem_198 ?_
                        refine ww_iconst C (v := nI 0) dX7_personItem_201 (by decide) ?_
                        refine ww_ialdN C hM.a16 (by decide) dX7_personItem_202 (kk := ?_)
                        refine ww_iastN C hM.a5 (by omega) dX7_personItem_203 (kk := fun w6 hw6 => ?_)
                        have hf : fr w w6 59 83 := hf.tr (fr.up hw6 (by omega) (by omega))
                        obtain ⟨A6, hM, e6, o6⟩ := hM.st 5 (by decide) hw6
                        have hSm := hSm.tr (Sm.st e6 o6 (by omega))
                        refine ww_aload0 C dX7_personItem_204 ?_
                        refine ww_getf C fl_X7_28 hM.1 rfl dX7_personItem_205 ?_
                        refine ww_iload1 C dX7_personItem_208 ?_
                        refine ww_aload0 C dX7_personItem_209 ?_
                        refine ww_getf C fl_X7_58 hM.1 rfl dX7_personItem_210 ?_
                        refine ww_iconst C (v := nI 1) dX7_personItem_213 (by decide) ?_
                        refine ww_ialdN C hM.a16 (by decide) dX7_personItem_214 (kk := ?_)
                        rw [show A6 16 1 = F2 16 1 from congrFun (o6 16 (by decide)) 1]
                        refine ww_iastN C hM.a6 (by omega) dX7_personItem_215 (kk := fun w7 hw7 => ?_)
                        have hf : fr w w7 59 83 := hf.tr (fr.up hw7 (by omega) (by omega))
                        obtain ⟨A7, hM, e7, o7⟩ := hM.st 6 (by decide) hw7
                        have hSm := hSm.tr (Sm.st e7 o7 (by omega))
                        refine ww_aload0 C dX7_personItem_216 ?_
                        refine ww_getf C fl_X7_13 hM.1 rfl dX7_personItem_217 ?_
                        refine ww_iconst C (v := nI 1) dX7_personItem_220 (by decide) ?_
                        refine ww_dup2 C dX7_personItem_221 rfl rfl ?_
                        refine ww_ialdN C hM.a1 (by decide) dX7_personItem_222 (kk := ?_)
                        refine ww_iconst C (v := nI 1) dX7_personItem_223 (by decide) ?_
                        refine ww_iaddN C dX7_personItem_224 ?_
                        refine ww_iastN C hM.a1 (by decide) dX7_personItem_225 (kk := fun w8 hw8 => ?_)
                        have hf : fr w w8 59 83 := hf.tr (fr.up hw8 (by omega) (by omega))
                        obtain ⟨A8, hM, e8, o8⟩ := hM.st 1 (by decide) hw8
                        have hSm := hSm.tr (Sm.st e8 o8 (by omega))
                        refine ww_iconst C (v := nI 1) dX7_personItem_226 (by decide) ?_
                        exact ww_rzq C dX7_personItem_227 rfl ⟨Nat.le_of_ble_eq_true rfl, Nat.le_of_ble_eq_true rfl⟩ (by rw [itP_s n1 n2 (num_in n3 (Nat.zero_le _) (by omega)) (num_in n4 (Nat.zero_le _) c187) hp7]; rfl) ⟨_, _, hM, hf, hSm, by omega, fun r hr => by rw [itP_s n1 n2 (num_in n3 (Nat.zero_le _) (by omega)) (num_in n4 (Nat.zero_le _) c187) hp7] at hr; cases hr; exact ⟨rfl, hDR.per (t := t) (P1 := P1) hp7 (by omega) hf0 ((up_at e8 rfl).trans (by rw [show A7 1 1 = h.2.2.2.1 from (congrFun ((o7 1 (by decide)).trans ((o6 1 (by decide)).trans ((hF2 1 (by decide)).trans ((o4 1 (by decide)).trans ((hDo 1 (by decide)).trans ((o2 1 (by decide)).trans (hF1 1 (by decide)))))))) 1).trans hDR.1])) (((o8 2 (by decide)).trans ((o7 2 (by decide)).trans ((o6 2 (by decide)).trans ((hF2 2 (by decide)).trans ((o4 2 (by decide)).trans (hDo 2 (by decide))))))).trans (e2.trans (by rw [hF1 2 (by decide)]))) (((o8 3 (by decide)).trans ((o7 3 (by decide)).trans ((o6 3 (by decide)).trans (hF2 3 (by decide))))).trans (e4.trans (by rw [hDo 3 (by decide), o2 3 (by decide), hF1 3 (by decide)]))) (fun j hj => (congrFun ((o8 4 (by decide)).trans ((o7 4 (by decide)).trans ((o6 4 (by decide)).trans ((hF2 4 (by decide)).trans (o4 4 (by decide)))))) j).trans (hD4 j hj)) (fun j hj => (congrFun ((o8 4 (by decide)).trans ((o7 4 (by decide)).trans ((o6 4 (by decide)).trans ((hF2 4 (by decide)).trans (o4 4 (by decide)))))) _).trans (hDn j hj)) (((o8 5 (by decide)).trans (o7 5 (by decide))).trans (e6.trans (by rw [hF2 5 (by decide), o4 5 (by decide), hDo 5 (by decide), o2 5 (by decide), hF1 5 (by decide)]))) ((o8 6 (by decide)).trans (e7.trans (by rw [o6 6 (by decide), hF2 6 (by decide), o4 6 (by decide), hDo 6 (by decide), o2 6 (by decide), hF1 6 (by decide)]))) ((o8 7 (by decide)).trans ((o7 7 (by decide)).trans ((o6 7 (by decide)).trans ((hF2 7 (by decide)).trans ((o4 7 (by decide)).trans ((hDo 7 (by decide)).trans ((o2 7 (by decide)).trans (hF1 7 (by decide))))))))) ((o8 8 (by decide)).trans ((o7 8 (by decide)).trans ((o6 8 (by decide)).trans ((hF2 8 (by decide)).trans ((o4 8 (by decide)).trans ((hDo 8 (by decide)).trans ((o2 8 (by decide)).trans (hF1 8 (by decide))))))))) ((o8 9 (by decide)).trans ((o7 9 (by decide)).trans ((o6 9 (by decide)).trans ((hF2 9 (by decide)).trans ((o4 9 (by decide)).trans ((hDo 9 (by decide)).trans ((o2 9 (by decide)).trans (hF1 9 (by decide))))))))) ((o8 10 (by decide)).trans ((o7 10 (by decide)).trans ((o6 10 (by decide)).trans ((hF2 10 (by decide)).trans ((o4 10 (by decide)).trans ((hDo 10 (by decide)).trans ((o2 10 (by decide)).trans (hF1 10 (by decide)))))))))⟩⟩
                      · skip
                        refine ww_iconst C (v := nI 0) dX7_personItem_190 (by decide) ?_
                        exact ww_rzq C dX7_personItem_191 rfl ⟨Nat.le_of_ble_eq_true rfl, Nat.le_of_ble_eq_true rfl⟩ (by have hno : itP t len pl h = none := (itP_3 n1 n2 (Or.inr ⟨_, num_in n3 (Nat.zero_le _) (by omega), num_out n4 (fun q => absurd q.2 (by omega))⟩)); rw [hno]; rfl) ⟨_, _, hM, hf, hSm, by omega, fun r hr => by have hno : itP t len pl h = none := (itP_3 n1 n2 (Or.inr ⟨_, num_in n3 (Nat.zero_le _) (by omega), num_out n4 (fun q => absurd q.2 (by omega))⟩)); rw [hno] at hr; cases hr⟩
                · skip
                  have n2 : namR t len P1 = none := nam_n ha hf0 (Or.inr c75) (Or.inr c136)
                  refine ww_iconst C (v := nI 0) dX7_personItem_139 (by decide) ?_
                  exact ww_rzq C dX7_personItem_140 rfl ⟨Nat.le_of_ble_eq_true rfl, Nat.le_of_ble_eq_true rfl⟩ (by have hno : itP t len pl h = none := (itP_2 n1 n2); rw [hno]; rfl) ⟨_, _, hM, hf, hSm, by omega, fun r hr => by have hno : itP t len pl h = none := (itP_2 n1 n2); rw [hno] at hr; cases hr⟩
            · skip
              refine ww_iload2 C dX7_personItem_78 ?_
              refine ww_bipush C (v := nI 6) dX7_personItem_79 (by decide) ?_
              refine ww_icmpgeN C (by omega) (tgt := 122) dX7_personItem_81 (by decide) (fun c81 => ?_) (fun c81 => ?_)
              · skip
                refine ww_iload2 C dX7_personItem_122 ?_
                refine ww_ifeqN C (by omega) (tgt := 139) dX7_personItem_123 (by decide) (fun c123 => ?_) (fun c123 => ?_)
                · skip
                  have n2 : namR t len P1 = none := nam_n ha hf0 (Or.inl (by omega)) (Or.inl c123)
                  refine ww_iconst C (v := nI 0) dX7_personItem_139 (by decide) ?_
                  exact ww_rzq C dX7_personItem_140 rfl ⟨Nat.le_of_ble_eq_true rfl, Nat.le_of_ble_eq_true rfl⟩ (by have hno : itP t len pl h = none := (itP_2 n1 n2); rw [hno]; rfl) ⟨_, _, hM, hf, hSm, by omega, fun r hr => by have hno : itP t len pl h = none := (itP_2 n1 n2); rw [hno] at hr; cases hr⟩
                · skip
                  refine ww_aload0 C dX7_personItem_126 ?_
                  refine ww_aload0 C dX7_personItem_127 ?_
                  refine ww_getf C fl_X7_98 hM.1 rfl dX7_personItem_128 ?_
                  refine ww_cV1v C hM.1 rfl (c_byteAt g n u hM (t := t) (fun j hj => (congrFun hSm.1 j).trans (ht j hj)) hl4 (k := P1 + f) (by omega)) kV_X7_101 ⟨Nat.le_of_ble_eq_true rfl, Nat.le_of_ble_eq_true rfl⟩ ⟨rfl, rfl⟩ ⟨Nat.le_of_ble_eq_true rfl, Nat.le_of_ble_eq_true rfl⟩ (Nat.le_of_ble_eq_true rfl) dX7_personItem_131 ?_
                  refine ww_bipush C (v := nI 44) dX7_personItem_134 (by decide) ?_
                  refine ww_icmpeqN C (by have := btN_lt (len := len) (q := P1 + f) ht256; omega) (tgt := 141) dX7_personItem_136 (by decide) (fun c136 => ?_) (fun c136 => ?_)
                  · skip
                    have n2 : namR t len P1 = some (f, P1 + f + 1) := nam_s ha c123 hf0 (Or.inl (by omega)) c136
                    have hlt := (namR_le n2).2.2
                    have hlt : P1 + f + 1 ≤ len := hlt
                    refine ww_aload0 C dX7_personItem_141 ?_
                    refine ww_dup C dX7_personItem_142 rfl ?_
                    refine ww_getf C fl_X7_98 hM.1 rfl dX7_personItem_143 ?_
                    refine ww_iconst C (v := nI 1) dX7_personItem_146 (by decide) ?_
                    refine ww_iaddN C dX7_personItem_147 ?_
                    refine ww_putI C fl_X7_98 hM.1 (Nat.le_of_ble_eq_true rfl) rfl dX7_personItem_148 (fun w9 hw9 => ?_)
                    have hf : fr w w9 59 83 := hf.tr (fr.up hw9 (by omega) (by omega))
                    have hM := hM.setO (len2 := len) (km2 := km) (pl2 := P1 + f + 1) hw9
                    refine ww_aload0 C dX7_personItem_151 ?_
                    refine ww_getf C fl_X7_19 hM.1 rfl dX7_personItem_152 ?_
                    refine ww_iload1 C dX7_personItem_155 ?_
                    refine ww_iload2 C dX7_personItem_156 ?_
                    refine ww_iastN C hM.a3 (by omega) dX7_personItem_157 (kk := fun w10 hw10 => ?_)
                    have hf : fr w w10 59 83 := hf.tr (fr.up hw10 (by omega) (by omega))
                    obtain ⟨A10, hM, e10, o10⟩ := hM.st 3 (by decide) hw10
                    have hSm := hSm.tr (Sm.st e10 o10 (by omega))
                    refine ww_aload0 C dX7_personItem_158 ?_
                    refine ww_iconst C (v := nI 2) dX7_personItem_159 (by decide) ?_
                    refine ww_bipush C (v := nI 59) dX7_personItem_160 (by decide) ?_
                    refine ww_cV2vq C hM.1 rfl (m_figures g n w10 hM (t := t) (fun j hj => (congrFun hSm.1 j).trans (ht j hj)) ht256 hl4 (by omega) (c := 2) (sep := 59) (Or.inr rfl) (Or.inr rfl)) kV_X7_111 ⟨Nat.le_of_ble_eq_true rfl, Nat.le_of_ble_eq_true rfl⟩ ⟨rfl, rfl⟩ ⟨Nat.le_of_ble_eq_true rfl, Nat.le_of_ble_eq_true rfl⟩ (Nat.le_of_ble_eq_true rfl) dX7_personItem_162 (fun w11 hw11 => ?_)
                    obtain ⟨F2, P2, hM, hf2, hF2, hP2, hI2⟩ := hw11
                    have hf := hf.tr hf2
                    have hSm := hSm.tr (Sm.all (fun b hb => hF2 b (by omega)))
                    refine ww_ifeqB C (tgt := 190) dX7_personItem_165 (by decide) (fun c165 => ?_) (fun c165 => ?_)
                    · skip
                      refine ww_iconst C (v := nI 0) dX7_personItem_190 (by decide) ?_
                      exact ww_rzq C dX7_personItem_191 rfl ⟨Nat.le_of_ble_eq_true rfl, Nat.le_of_ble_eq_true rfl⟩ (by have hno : itP t len pl h = none := (itP_3 n1 n2 (it2_no c165)); rw [hno]; rfl) ⟨_, _, hM, hf, hSm, by omega, fun r hr => by have hno : itP t len pl h = none := (itP_3 n1 n2 (it2_no c165)); rw [hno] at hr; cases hr⟩
                    · skip
                      obtain ⟨P3, n3, n4⟩ := (hI2 c165).two
                      have l3 := (numR_le n3).2.1
                      have l4 := (numR_le n4).2.1
                      refine ww_aload0 C dX7_personItem_168 ?_
                      refine ww_getf C fl_X7_58 hM.1 rfl dX7_personItem_169 ?_
                      refine ww_iconst C (v := nI 0) dX7_personItem_172 (by decide) ?_
                      refine ww_ialdN C hM.a16 (by omega) dX7_personItem_173 (kk := ?_)
                      refine ww_bipush C (v := nI 99) dX7_personItem_174 (by decide) ?_
                      refine ww_icmpgtN C (by have l3 : F2 16 0 ≤ 999 := l3; omega) (tgt := 190) dX7_personItem_176 (by decide) (fun c176 => ?_) (fun c176 => ?_)
                      · skip
                        refine ww_iconst C (v := nI 0) dX7_personItem_190 (by decide) ?_
                        exact ww_rzq C dX7_personItem_191 rfl ⟨Nat.le_of_ble_eq_true rfl, Nat.le_of_ble_eq_true rfl⟩ (by have hno : itP t len pl h = none := (itP_3 n1 n2 (Or.inl (num_out n3 (fun q => absurd q.2 (by omega))))); rw [hno]; rfl) ⟨_, _, hM, hf, hSm, by omega, fun r hr => by have hno : itP t len pl h = none := (itP_3 n1 n2 (Or.inl (num_out n3 (fun q => absurd q.2 (by omega))))); rw [hno] at hr; cases hr⟩
                      · skip
                        refine ww_aload0 C dX7_personItem_179 ?_
                        refine ww_getf C fl_X7_58 hM.1 rfl dX7_personItem_180 ?_
                        refine ww_iconst C (v := nI 1) dX7_personItem_183 (by decide) ?_
                        refine ww_ialdN C hM.a16 (by omega) dX7_personItem_184 (kk := ?_)
                        refine ww_bipush C (v := nI 9) dX7_personItem_185 (by decide) ?_
                        refine ww_icmpleN C (by have l4 : F2 16 1 ≤ 999 := l4; omega) (tgt := 192) dX7_personItem_187 (by decide) (fun c187 => ?_) (fun c187 => ?_)
                        · skip
                          refine ww_aload0 C dX7_personItem_192 ?_
                          refine ww_getf C fl_X7_25 hM.1 rfl dX7_personItem_193 ?_
                          refine ww_iload1 C dX7_personItem_196 ?_
                          refine ww_aload0 C dX7_personItem_197 ?_
                          refine ww_getf C fl_X7_58 hM.1 rfl dX7_personItem_198 ?_
                          refine ww_iconst C (v := nI 0) dX7_personItem_201 (by decide) ?_
                          refine ww_ialdN C hM.a16 (by decide) dX7_personItem_202 (kk := ?_)
                          refine ww_iastN C hM.a5 (by omega) dX7_personItem_203 (kk := fun w12 hw12 => ?_)
                          have hf : fr w w12 59 83 := hf.tr (fr.up hw12 (by omega) (by omega))
                          obtain ⟨A12, hM, e12, o12⟩ := hM.st 5 (by decide) hw12
                          have hSm := hSm.tr (Sm.st e12 o12 (by omega))
                          refine ww_aload0 C dX7_personItem_204 ?_
                          refine ww_getf C fl_X7_28 hM.1 rfl dX7_personItem_205 ?_
                          refine ww_iload1 C dX7_personItem_208 ?_
                          refine ww_aload0 C dX7_personItem_209 ?_
                          refine ww_getf C fl_X7_58 hM.1 rfl dX7_personItem_210 ?_
                          refine ww_iconst C (v := nI 1) dX7_personItem_213 (by decide) ?_
                          refine ww_ialdN C hM.a16 (by decide) dX7_personItem_214 (kk := ?_)
                          rw [show A12 16 1 = F2 16 1 from congrFun (o12 16 (by decide)) 1]
                          refine ww_iastN C hM.a6 (by omega) dX7_personItem_215 (kk := fun w13 hw13 => ?_)
                          have hf : fr w w13 59 83 := hf.tr (fr.up hw13 (by omega) (by omega))
                          obtain ⟨A13, hM, e13, o13⟩ := hM.st 6 (by decide) hw13
                          have hSm := hSm.tr (Sm.st e13 o13 (by omega))
                          refine ww_aload0 C dX7_personItem_216 ?_
                          refine ww_getf C fl_X7_13 hM.1 rfl dX7_personItem_217 ?_
                          refine ww_iconst C (v := nI 1) dX7_personItem_220 (by decide) ?_
                          refine ww_dup2 C dX7_personItem_221 rfl rfl ?_
                          refine ww_ialdN C hM.a1 (by decide) dX7_personItem_222 (kk := ?_)
                          refine ww_iconst C (v := nI 1) dX7_personItem_223 (by decide) ?_
                          refine ww_iaddN C dX7_personItem_224 ?_
                          refine ww_iastN C hM.a1 (by decide) dX7_personItem_225 (kk := fun w14 hw14 => ?_)
                          have hf : fr w w14 59 83 := hf.tr (fr.up hw14 (by omega) (by omega))
                          obtain ⟨A14, hM, e14, o14⟩ := hM.st 1 (by decide) hw14
                          have hSm := hSm.tr (Sm.st e14 o14 (by omega))
                          refine ww_iconst C (v := nI 1) dX7_personItem_226 (by decide) ?_
                          exact ww_rzq C dX7_personItem_227 rfl ⟨Nat.le_of_ble_eq_true rfl, Nat.le_of_ble_eq_true rfl⟩ (by rw [itP_s n1 n2 (num_in n3 (Nat.zero_le _) (by omega)) (num_in n4 (Nat.zero_le _) c187) hp7]; rfl) ⟨_, _, hM, hf, hSm, by omega, fun r hr => by rw [itP_s n1 n2 (num_in n3 (Nat.zero_le _) (by omega)) (num_in n4 (Nat.zero_le _) c187) hp7] at hr; cases hr; exact ⟨rfl, hDR.per (t := t) (P1 := P1) hp7 (by omega) hf0 ((up_at e14 rfl).trans (by rw [show A13 1 1 = h.2.2.2.1 from (congrFun ((o13 1 (by decide)).trans ((o12 1 (by decide)).trans ((hF2 1 (by decide)).trans ((o10 1 (by decide)).trans ((hDo 1 (by decide)).trans ((o2 1 (by decide)).trans (hF1 1 (by decide)))))))) 1).trans hDR.1])) (((o14 2 (by decide)).trans ((o13 2 (by decide)).trans ((o12 2 (by decide)).trans ((hF2 2 (by decide)).trans ((o10 2 (by decide)).trans (hDo 2 (by decide))))))).trans (e2.trans (by rw [hF1 2 (by decide)]))) (((o14 3 (by decide)).trans ((o13 3 (by decide)).trans ((o12 3 (by decide)).trans (hF2 3 (by decide))))).trans (e10.trans (by rw [hDo 3 (by decide), o2 3 (by decide), hF1 3 (by decide)]))) (fun j hj => (congrFun ((o14 4 (by decide)).trans ((o13 4 (by decide)).trans ((o12 4 (by decide)).trans ((hF2 4 (by decide)).trans (o10 4 (by decide)))))) j).trans (hD4 j hj)) (fun j hj => (congrFun ((o14 4 (by decide)).trans ((o13 4 (by decide)).trans ((o12 4 (by decide)).trans ((hF2 4 (by decide)).trans (o10 4 (by decide)))))) _).trans (hDn j hj)) (((o14 5 (by decide)).trans (o13 5 (by decide))).trans (e12.trans (by rw [hF2 5 (by decide), o10 5 (by decide), hDo 5 (by decide), o2 5 (by decide), hF1 5 (by decide)]))) ((o14 6 (by decide)).trans (e13.trans (by rw [o12 6 (by decide), hF2 6 (by decide), o10 6 (by decide), hDo 6 (by decide), o2 6 (by decide), hF1 6 (by decide)]))) ((o14 7 (by decide)).trans ((o13 7 (by decide)).trans ((o12 7 (by decide)).trans ((hF2 7 (by decide)).trans ((o10 7 (by decide)).trans ((hDo 7 (by decide)).trans ((o2 7 (by decide)).trans (hF1 7 (by decide))))))))) ((o14 8 (by decide)).trans ((o13 8 (by decide)).trans ((o12 8 (by decide)).trans ((hF2 8 (by decide)).trans ((o10 8 (by decide)).trans ((hDo 8 (by decide)).trans ((o2 8 (by decide)).trans (hF1 8 (by decide))))))))) ((o14 9 (by decide)).trans ((o13 9 (by decide)).trans ((o12 9 (by decide)).trans ((hF2 9 (by decide)).trans ((o10 9 (by decide)).trans ((hDo 9 (by decide)).trans ((o2 9 (by decide)).trans (hF1 9 (by decide))))))))) ((o14 10 (by decide)).trans ((o13 10 (by decide)).trans ((o12 10 (by decide)).trans ((hF2 10 (by decide)).trans ((o10 10 (by decide)).trans ((hDo 10 (by decide)).trans ((o2 10 (by decide)).trans (hF1 10 (by decide)))))))))⟩⟩
                        · skip
                          refine ww_iconst C (v := nI 0) dX7_personItem_190 (by decide) ?_
                          exact ww_rzq C dX7_personItem_191 rfl ⟨Nat.le_of_ble_eq_true rfl, Nat.le_of_ble_eq_true rfl⟩ (by have hno : itP t len pl h = none := (itP_3 n1 n2 (Or.inr ⟨_, num_in n3 (Nat.zero_le _) (by omega), num_out n4 (fun q => absurd q.2 (by omega))⟩)); rw [hno]; rfl) ⟨_, _, hM, hf, hSm, by omega, fun r hr => by have hno : itP t len pl h = none := (itP_3 n1 n2 (Or.inr ⟨_, num_in n3 (Nat.zero_le _) (by omega), num_out n4 (fun q => absurd q.2 (by omega))⟩)); rw [hno] at hr; cases hr⟩
                  · skip
                    have n2 : namR t len P1 = none := nam_n ha hf0 (Or.inl (by omega)) (Or.inr c136)
                    refine ww_iconst C (v := nI 0) dX7_personItem_139 (by decide) ?_
                    exact ww_rzq C dX7_personItem_140 rfl ⟨Nat.le_of_ble_eq_true rfl, Nat.le_of_ble_eq_true rfl⟩ (by have hno : itP t len pl h = none := (itP_2 n1 n2); rw [hno]; rfl) ⟨_, _, hM, hf, hSm, by omega, fun r hr => by have hno : itP t len pl h = none := (itP_2 n1 n2); rw [hno] at hr; cases hr⟩
              · skip
                have hd := of_decide_eq_true c75
                have hbt := bt_dg c75
                refine ww_aload0 C dX7_personItem_84 ?_
                refine ww_getf C fl_X7_22 hM.1 rfl dX7_personItem_85 ?_
                refine ww_bipush C (v := nI 6) dX7_personItem_88 (by decide) ?_
                refine ww_iload1 C dX7_personItem_90 ?_
                refine ww_imulN C dX7_personItem_91 ?_
                refine ww_iload2 C dX7_personItem_92 ?_
                refine ww_iaddN C dX7_personItem_93 ?_
                refine ww_aload0 C dX7_personItem_94 ?_
                refine ww_aload0 C dX7_personItem_95 ?_
                refine ww_getf C fl_X7_98 hM.1 rfl dX7_personItem_96 ?_
                refine ww_cV1v C hM.1 rfl (c_byteAt g n u hM (t := t) (fun j hj => (congrFun hSm.1 j).trans (ht j hj)) hl4 (k := P1 + f) (by omega)) kV_X7_101 ⟨Nat.le_of_ble_eq_true rfl, Nat.le_of_ble_eq_true rfl⟩ ⟨rfl, rfl⟩ ⟨Nat.le_of_ble_eq_true rfl, Nat.le_of_ble_eq_true rfl⟩ (Nat.le_of_ble_eq_true rfl) dX7_personItem_99 ?_
                refine ww_bipush C (v := nI 48) dX7_personItem_102 (by decide) ?_
                refine ww_isubN C (by omega) dX7_personItem_104 ?_
                refine ww_iastN C hM.a4 (by omega) dX7_personItem_105 (kk := fun w15 hw15 => ?_)
                have hf : fr w w15 59 83 := hf.tr (fr.up hw15 (by omega) (by omega))
                obtain ⟨A15, hM, e15, o15⟩ := hM.st 4 (by decide) hw15
                have hSm := hSm.tr (Sm.st e15 o15 (by omega))
                refine ww_iincN2 C dX7_personItem_106 (by decide) rfl ?_
                refine ww_aload0 C dX7_personItem_109 ?_
                refine ww_dup C dX7_personItem_110 rfl ?_
                refine ww_getf C fl_X7_98 hM.1 rfl dX7_personItem_111 ?_
                refine ww_iconst C (v := nI 1) dX7_personItem_114 (by decide) ?_
                refine ww_iaddN C dX7_personItem_115 ?_
                refine ww_putI C fl_X7_98 hM.1 (Nat.le_of_ble_eq_true rfl) rfl dX7_personItem_116 (fun w16 hw16 => ?_)
                have hf : fr w w16 59 83 := hf.tr (fr.up hw16 (by omega) (by omega))
                have hM := hM.setO (len2 := len) (km2 := km) (pl2 := P1 + f + 1) hw16
                refine ww_goto C (tgt := 57) dX7_personItem_119 (by decide) ?_
                exact ih57 (f + 1) A15 _ (by omega) (by omega) (lt_s ha c75) (by omega) (fun b hb => (o15 b hb).trans (hDo b hb)) (fun j hj => (up_no e15 (by omega)).trans (hD4 j hj)) (lt_s (fun j hj => (up_no e15 (by omega)).trans (hDn j hj)) ((up_at e15 rfl).trans (by rw [hbt]))) hSm hM hf
        exact lp57 (7) 0 A2 _ (by omega) (by omega) (fun q hq => absurd hq (by omega)) (by omega) (fun _ _ => rfl) (fun j _ => congrFun ((o2 4 (by decide)).trans (hF1 4 (by decide))) j) (fun j hj => absurd hj (by omega)) hSm hM hf
      · skip
        refine ww_iconst C (v := nI 0) dX7_personItem_41 (by decide) ?_
        exact ww_rzq C dX7_personItem_42 rfl ⟨Nat.le_of_ble_eq_true rfl, Nat.le_of_ble_eq_true rfl⟩ (by have hno : itP t len pl h = none := (itP_1 (num_out n1 (fun q => absurd q.2 (by omega)))); rw [hno]; rfl) ⟨_, _, hM, hf, hSm, by omega, fun r hr => by have hno : itP t len pl h = none := (itP_1 (num_out n1 (fun q => absurd q.2 (by omega)))); rw [hno] at hr; cases hr⟩
