theorem tab_mdef (c : Nat) (h1 : c < 116) (h2 : 98 ≤ c) (a1 : ¬ c = 98) (a2 : ¬ c = 107) (a3 : ¬ c = 108) (a4 : ¬ c = 109) (a5 : ¬ c = 110) (a6 : ¬ c = 115) : (#[247, 350, 350, 350, 350, 350, 350, 350, 350, 147, 93, 313, 88, 350, 350, 350, 350, 186] : Array Int)[((nI c).toInt - 98).toNat]? = some 350 := by
  rcases (show c = 99 ∨ c = 100 ∨ c = 101 ∨ c = 102 ∨ c = 103 ∨ c = 104 ∨ c = 105 ∨ c = 106 ∨ c = 111 ∨ c = 112 ∨ c = 113 ∨ c = 114 by omega) with rfl | rfl | rfl | rfl | rfl | rfl | rfl | rfl | rfl | rfl | rfl | rfl <;> decide
section GT
variable {t : Nat → Nat} {len pl sep lo hi : Nat}
theorem numR_gt {r : Nat × Nat} (h : numR t len pl sep lo hi = some r) : pl < r.2 := by
  unfold numR at h
  split at h
  · cases h
  · split at h
    · split at h
      · cases h
        show pl < _ + 1
        omega
      · cases h
    · cases h
theorem namR_gt {r : Nat × Nat} (h : namR t len pl = some r) : pl < r.2 := by
  unfold namR at h
  split at h
  · cases h
  · split at h
    · cases h
      show pl < _ + 1
      omega
    · cases h
variable {h : Hs} {r : Nat × Hs}
theorem itP_gt (e : itP t len pl h = some r) : pl < r.1 := by
  unfold itP at e
  rcases q1 : numR t len pl 44 0 3 with _ | r1
  · rw [q1] at e; cases e
  · rw [q1] at e; dsimp only at e
    rcases q2 : namR t len r1.2 with _ | r2
    · rw [q2] at e; cases e
    · rw [q2] at e; dsimp only at e
      rcases q3 : numR t len r2.2 44 0 99 with _ | r3
      · rw [q3] at e; cases e
      · rw [q3] at e; dsimp only at e
        rcases q4 : numR t len r3.2 59 0 9 with _ | r4
        · rw [q4] at e; cases e
        · rw [q4] at e; dsimp only at e
          have g1 := numR_gt q1
          have g2 := namR_gt q2
          have g3 := numR_gt q3
          have g4 := numR_gt q4
          split at e
          · cases e
            show pl < r4.2
            omega
          · cases e
theorem it2_gt {lo2 hi2 : Nat} {F : Nat × Nat → Nat × Nat → Hs} (e : (match numR t len pl 44 lo hi with
  | none => none
  | some r1 => match numR t len r1.2 59 lo2 hi2 with
    | none => none
    | some r2 => some (r2.2, F r1 r2)) = some r) : pl < r.1 := by
  rcases q1 : numR t len pl 44 lo hi with _ | r1
  · rw [q1] at e; cases e
  · rw [q1] at e; dsimp only at e
    rcases q2 : numR t len r1.2 59 lo2 hi2 with _ | r2
    · rw [q2] at e; cases e
    · rw [q2] at e
      have g1 := numR_gt q1
      have g2 := numR_gt q2
      cases e
      show pl < r2.2
      omega
theorem it1_gt {F : Nat × Nat → Hs} (e : (match numR t len pl 59 lo hi with
  | none => none
  | some r1 => some (r1.2, F r1)) = some r) : pl < r.1 := by
  rcases q1 : numR t len pl 59 lo hi with _ | r1
  · rw [q1] at e; cases e
  · rw [q1] at e
    have g1 := numR_gt q1
    cases e
    exact g1
theorem item_gt (e : itemR t len pl h = some r) : pl < r.1 := by
  unfold itemR at e
  split at e
  · have := itP_gt e; omega
  · split at e
    · have := it2_gt (F := fun r1 r2 => _) e; omega
    · split at e
      · have := it1_gt (F := fun r1 => _) e; omega
      · split at e
        · have := it2_gt (F := fun r1 r2 => _) e; omega
        · split at e
          · have := it2_gt (F := fun r1 r2 => _) e; omega
          · split at e
            · have := it1_gt (F := fun r1 => _) e; omega
            · cases e
end GT
theorem m_item (g : Gx) (n : Nat) (w : Wd) {A : Nat → Nat → Nat} {len pl km : Nat} (hM : MO w A len pl km) {t : Nat → Nat} (ht : ∀ j, j < len → A 0 j = t j) (ht256 : ∀ j, t j < 256) (hl4 : len ≤ 400) (hlt : pl < len) {h : Hs} (hDR : DR A h) : CT g yX7_item cX7_item 2 (some .boolean) rm_X7_item n n w [.ref 59] (Rq (.int (bz (itemR t len pl h).isSome)) (fun w1 => ∃ B P, MO w1 B len P km ∧ fr w w1 59 83 ∧ Sm B A ∧ P ≤ 400 ∧ ∀ r, itemR t len pl h = some r → P = r.1 ∧ DR B r.2)) := by
  have hf : fr w w 59 83 := fr.rf
  have hSm : Sm A A := Sm.rf A
  have hp8 := hDR.2.1
  have htp := ht256 pl
  refine CT.start [some (.ref 59), none] (by decide +kernel) rfl (Nat.le_of_ble_eq_true rfl) (fun x C hnm => ?_)
  refine ww_aload0 C dX7_item_0 ?_
  refine ww_aload0 C dX7_item_1 ?_
  refine ww_getf C fl_X7_98 hM.1 rfl dX7_item_2 ?_
  refine ww_cV1v C hM.1 rfl (c_byteAt g n w hM (t := t) (fun j hj => (congrFun hSm.1 j).trans (ht j hj)) hl4 (k := pl) (by omega)) kV_X7_101 ⟨Nat.le_of_ble_eq_true rfl, Nat.le_of_ble_eq_true rfl⟩ ⟨rfl, rfl⟩ ⟨Nat.le_of_ble_eq_true rfl, Nat.le_of_ble_eq_true rfl⟩ (Nat.le_of_ble_eq_true rfl) dX7_item_5 ?_
  refine ww_topi (show nI (btN t len pl) = nI (t pl) by unfold btN; rw [if_pos hlt]) ?_
  refine ww_istore1 C dX7_item_8 (by decide) rfl ?_
  refine ww_aload0 C dX7_item_9 ?_
  refine ww_dup C dX7_item_10 rfl ?_
  refine ww_getf C fl_X7_98 hM.1 rfl dX7_item_11 ?_
  refine ww_iconst C (v := nI 1) dX7_item_14 (by decide) ?_
  refine ww_iaddN C dX7_item_15 ?_
  refine ww_putI C fl_X7_98 hM.1 (Nat.le_of_ble_eq_true rfl) rfl dX7_item_16 (fun w1 hw1 => ?_)
  have hf : fr w w1 59 83 := hf.tr (fr.up hw1 (by omega) (by omega))
  have hM := hM.setO (len2 := len) (km2 := km) (pl2 := pl + 1) hw1
  refine ww_iload1 C dX7_item_19 ?_
  by_cases a110 : t pl = 110
  · rw [a110]
    refine ww_tabIn C (tgt := 108) dX7_item_20 (by decide) (by decide) rfl (by decide) ?_
    refine ww_aload0 C dX7_item_108 ?_
    refine ww_cV0vq C hM.1 rfl (m_personItem g n w1 hM ht ht256 hl4 (by omega) hDR) kV_X7_117 ⟨Nat.le_of_ble_eq_true rfl, Nat.le_of_ble_eq_true rfl⟩ ⟨rfl, rfl⟩ ⟨Nat.le_of_ble_eq_true rfl, Nat.le_of_ble_eq_true rfl⟩ (Nat.le_of_ble_eq_true rfl) dX7_item_109 (fun w2 hw2 => ?_)
    obtain ⟨B9, P9, hM9, hf9, hS9, hP9, hR9⟩ := hw2
    exact ww_rzq C dX7_item_112 rfl ⟨Nat.le_of_ble_eq_true rfl, Nat.le_of_ble_eq_true rfl⟩ (by unfold itemR; rw [if_pos a110]) ⟨B9, P9, hM9, hf.tr hf9, hS9, hP9, fun r hr => by unfold itemR at hr; rw [if_pos a110] at hr; exact hR9 r hr⟩
  · skip
    by_cases a108 : t pl = 108
    · rw [a108]
      refine ww_tabIn C (tgt := 113) dX7_item_20 (by decide) (by decide) rfl (by decide) ?_
      refine ww_aload0 C dX7_item_113 ?_
      refine ww_iconst C (v := nI 2) dX7_item_114 (by decide) ?_
      refine ww_bipush C (v := nI 59) dX7_item_115 (by decide) ?_
      refine ww_cV2vq C hM.1 rfl (m_figures g n w1 hM (t := t) (fun j hj => (congrFun hSm.1 j).trans (ht j hj)) ht256 hl4 (by omega) (c := 2) (sep := 59) (Or.inr rfl) (Or.inr rfl)) kV_X7_111 ⟨Nat.le_of_ble_eq_true rfl, Nat.le_of_ble_eq_true rfl⟩ ⟨rfl, rfl⟩ ⟨Nat.le_of_ble_eq_true rfl, Nat.le_of_ble_eq_true rfl⟩ (Nat.le_of_ble_eq_true rfl) dX7_item_117 (fun w3 hw3 => ?_)
      obtain ⟨F1, P1, hM, hf1, hF1, hP1, hI1⟩ := hw3
      have hf := hf.tr hf1
      have hSm := hSm.tr (Sm.all (fun b hb => hF1 b (by omega)))
      refine ww_ifeqB C (tgt := 143) dX7_item_120 (by decide) (fun c120 => ?_) (fun c120 => ?_)
      · skip
        refine ww_iconst C (v := nI 0) dX7_item_143 (by decide) ?_
        exact ww_rzq C dX7_item_144 rfl ⟨Nat.le_of_ble_eq_true rfl, Nat.le_of_ble_eq_true rfl⟩ (by have hit : itemR t len pl h = none := (by unfold itemR; rw [if_neg a110, if_pos a108]; exact itL_n (it2_no c120)); rw [hit]; rfl) ⟨_, _, hM, hf, hSm, by omega, fun r hr => by have hit : itemR t len pl h = none := (by unfold itemR; rw [if_neg a110, if_pos a108]; exact itL_n (it2_no c120)); rw [hit] at hr; cases hr⟩
      · skip
        obtain ⟨P3, n3, n4⟩ := (hI1 c120).two
        have l3 := (numR_le n3).2.1
        have l4 := (numR_le n4).2.1
        have l3 : F1 16 0 ≤ 999 := l3
        have l4 : F1 16 1 ≤ 999 := l4
        refine ww_aload0 C dX7_item_123 ?_
        refine ww_getf C fl_X7_58 hM.1 rfl dX7_item_124 ?_
        refine ww_iconst C (v := nI 0) dX7_item_127 (by decide) ?_
        refine ww_ialdN C hM.a16 (by decide) dX7_item_128 (kk := ?_)
        refine ww_iconst C (v := nI 5) dX7_item_129 (by decide) ?_
        refine ww_icmpgtN C (by omega) (tgt := 143) dX7_item_130 (by decide) (fun c130 => ?_) (fun c130 => ?_)
        · skip
          refine ww_iconst C (v := nI 0) dX7_item_143 (by decide) ?_
          exact ww_rzq C dX7_item_144 rfl ⟨Nat.le_of_ble_eq_true rfl, Nat.le_of_ble_eq_true rfl⟩ (by have hit : itemR t len pl h = none := (by unfold itemR; rw [if_neg a110, if_pos a108]; exact itL_n (Or.inl (num_out n3 (fun q => absurd q.2 (by omega))))); rw [hit]; rfl) ⟨_, _, hM, hf, hSm, by omega, fun r hr => by have hit : itemR t len pl h = none := (by unfold itemR; rw [if_neg a110, if_pos a108]; exact itL_n (Or.inl (num_out n3 (fun q => absurd q.2 (by omega))))); rw [hit] at hr; cases hr⟩
        · skip
          refine ww_aload0 C dX7_item_133 ?_
          refine ww_getf C fl_X7_58 hM.1 rfl dX7_item_134 ?_
          refine ww_iconst C (v := nI 1) dX7_item_137 (by decide) ?_
          refine ww_ialdN C hM.a16 (by decide) dX7_item_138 (kk := ?_)
          refine ww_iconst C (v := nI 5) dX7_item_139 (by decide) ?_
          refine ww_icmpleN C (by omega) (tgt := 145) dX7_item_140 (by decide) (fun c140 => ?_) (fun c140 => ?_)
          · skip
            refine ww_aload0 C dX7_item_145 ?_
            refine ww_getf C fl_X7_31 hM.1 rfl dX7_item_146 ?_
            refine ww_bipush C (v := nI 6) dX7_item_149 (by decide) ?_
            refine ww_aload0 C dX7_item_151 ?_
            refine ww_getf C fl_X7_58 hM.1 rfl dX7_item_152 ?_
            refine ww_iconst C (v := nI 0) dX7_item_155 (by decide) ?_
            refine ww_ialdN C hM.a16 (by decide) dX7_item_156 (kk := ?_)
            refine ww_iaddN C dX7_item_157 ?_
            refine ww_aload0 C dX7_item_158 ?_
            refine ww_getf C fl_X7_58 hM.1 rfl dX7_item_159 ?_
            refine ww_iconst C (v := nI 1) dX7_item_162 (by decide) ?_
            refine ww_ialdN C hM.a16 (by decide) dX7_item_163 (kk := ?_)
            refine ww_iastN C hM.a7 (by omega) dX7_item_164 (kk := fun w4 hw4 => ?_)
            have hf : fr w w4 59 83 := hf.tr (fr.up hw4 (by omega) (by omega))
            obtain ⟨A4, hM, e4, o4⟩ := hM.st 7 (by decide) hw4
            have hSm := hSm.tr (Sm.st e4 o4 (by omega))
            refine ww_iconst C (v := nI 1) dX7_item_165 (by decide) ?_
            exact ww_rzq C dX7_item_166 rfl ⟨Nat.le_of_ble_eq_true rfl, Nat.le_of_ble_eq_true rfl⟩ (by have hit : itemR t len pl h = some _ := (by unfold itemR; rw [if_neg a110, if_pos a108]; exact itL_s (num_in n3 (Nat.zero_le _) (by omega)) (num_in n4 (Nat.zero_le _) (by omega))); rw [hit]; rfl) ⟨_, _, hM, hf, hSm, by omega, fun r hr => by have hit : itemR t len pl h = some _ := (by unfold itemR; rw [if_neg a110, if_pos a108]; exact itL_s (num_in n3 (Nat.zero_le _) (by omega)) (num_in n4 (Nat.zero_le _) (by omega))); rw [hit] at hr; cases hr; exact ⟨rfl, (hDR.told hF1).wo e4 o4⟩⟩
          · skip
            refine ww_iconst C (v := nI 0) dX7_item_143 (by decide) ?_
            exact ww_rzq C dX7_item_144 rfl ⟨Nat.le_of_ble_eq_true rfl, Nat.le_of_ble_eq_true rfl⟩ (by have hit : itemR t len pl h = none := (by unfold itemR; rw [if_neg a110, if_pos a108]; exact itL_n (Or.inr ⟨_, num_in n3 (Nat.zero_le _) (by omega), num_out n4 (fun q => absurd q.2 (by omega))⟩)); rw [hit]; rfl) ⟨_, _, hM, hf, hSm, by omega, fun r hr => by have hit : itemR t len pl h = none := (by unfold itemR; rw [if_neg a110, if_pos a108]; exact itL_n (Or.inr ⟨_, num_in n3 (Nat.zero_le _) (by omega), num_out n4 (fun q => absurd q.2 (by omega))⟩)); rw [hit] at hr; cases hr⟩
    · skip
      by_cases a107 : t pl = 107
      · rw [a107]
        refine ww_tabIn C (tgt := 167) dX7_item_20 (by decide) (by decide) rfl (by decide) ?_
        refine ww_aload0 C dX7_item_167 ?_
        refine ww_iconst C (v := nI 1) dX7_item_168 (by decide) ?_
        refine ww_bipush C (v := nI 59) dX7_item_169 (by decide) ?_
        refine ww_cV2vq C hM.1 rfl (m_figures g n w1 hM (t := t) (fun j hj => (congrFun hSm.1 j).trans (ht j hj)) ht256 hl4 (by omega) (c := 1) (sep := 59) (Or.inl rfl) (Or.inr rfl)) kV_X7_111 ⟨Nat.le_of_ble_eq_true rfl, Nat.le_of_ble_eq_true rfl⟩ ⟨rfl, rfl⟩ ⟨Nat.le_of_ble_eq_true rfl, Nat.le_of_ble_eq_true rfl⟩ (Nat.le_of_ble_eq_true rfl) dX7_item_171 (fun w5 hw5 => ?_)
        obtain ⟨F1, P1, hM, hf1, hF1, hP1, hI1⟩ := hw5
        have hf := hf.tr hf1
        have hSm := hSm.tr (Sm.all (fun b hb => hF1 b (by omega)))
        refine ww_ifeqB C (tgt := 187) dX7_item_174 (by decide) (fun c174 => ?_) (fun c174 => ?_)
        · skip
          refine ww_iconst C (v := nI 0) dX7_item_187 (by decide) ?_
          exact ww_rzq C dX7_item_188 rfl ⟨Nat.le_of_ble_eq_true rfl, Nat.le_of_ble_eq_true rfl⟩ (by have hit : itemR t len pl h = none := (by unfold itemR; rw [if_neg a110, if_neg a108, if_pos a107]; exact itK_n (num_none (fg1_no c174))); rw [hit]; rfl) ⟨_, _, hM, hf, hSm, by omega, fun r hr => by have hit : itemR t len pl h = none := (by unfold itemR; rw [if_neg a110, if_neg a108, if_pos a107]; exact itK_n (num_none (fg1_no c174))); rw [hit] at hr; cases hr⟩
        · skip
          have n1 := (hI1 c174).one
          have l1 := (numR_le n1).2.1
          have l1 : F1 16 0 ≤ 999 := l1
          refine ww_aload0 C dX7_item_177 ?_
          refine ww_getf C fl_X7_58 hM.1 rfl dX7_item_178 ?_
          refine ww_iconst C (v := nI 0) dX7_item_181 (by decide) ?_
          refine ww_ialdN C hM.a16 (by decide) dX7_item_182 (kk := ?_)
          refine ww_iconst C (v := nI 5) dX7_item_183 (by decide) ?_
          refine ww_icmpleN C (by omega) (tgt := 189) dX7_item_184 (by decide) (fun c184 => ?_) (fun c184 => ?_)
          · skip
            refine ww_aload0 C dX7_item_189 ?_
            refine ww_getf C fl_X7_34 hM.1 rfl dX7_item_190 ?_
            refine ww_bipush C (v := nI 6) dX7_item_193 (by decide) ?_
            refine ww_aload0 C dX7_item_195 ?_
            refine ww_getf C fl_X7_58 hM.1 rfl dX7_item_196 ?_
            refine ww_iconst C (v := nI 0) dX7_item_199 (by decide) ?_
            refine ww_ialdN C hM.a16 (by decide) dX7_item_200 (kk := ?_)
            refine ww_iaddN C dX7_item_201 ?_
            refine ww_iconst C (v := nI 1) dX7_item_202 (by decide) ?_
            refine ww_iastN C hM.a8 (by omega) dX7_item_203 (kk := fun w6 hw6 => ?_)
            have hf : fr w w6 59 83 := hf.tr (fr.up hw6 (by omega) (by omega))
            obtain ⟨A6, hM, e6, o6⟩ := hM.st 8 (by decide) hw6
            have hSm := hSm.tr (Sm.st e6 o6 (by omega))
            refine ww_iconst C (v := nI 1) dX7_item_204 (by decide) ?_
            exact ww_rzq C dX7_item_205 rfl ⟨Nat.le_of_ble_eq_true rfl, Nat.le_of_ble_eq_true rfl⟩ (by have hit : itemR t len pl h = some _ := (by unfold itemR; rw [if_neg a110, if_neg a108, if_pos a107]; exact itK_s (num_in n1 (Nat.zero_le _) (by omega))); rw [hit]; rfl) ⟨_, _, hM, hf, hSm, by omega, fun r hr => by have hit : itemR t len pl h = some _ := (by unfold itemR; rw [if_neg a110, if_neg a108, if_pos a107]; exact itK_s (num_in n1 (Nat.zero_le _) (by omega))); rw [hit] at hr; cases hr; exact ⟨rfl, (hDR.told hF1).sh e6 o6⟩⟩
          · skip
            refine ww_iconst C (v := nI 0) dX7_item_187 (by decide) ?_
            exact ww_rzq C dX7_item_188 rfl ⟨Nat.le_of_ble_eq_true rfl, Nat.le_of_ble_eq_true rfl⟩ (by have hit : itemR t len pl h = none := (by unfold itemR; rw [if_neg a110, if_neg a108, if_pos a107]; exact itK_n (num_out n1 (fun q => absurd q.2 (by omega)))); rw [hit]; rfl) ⟨_, _, hM, hf, hSm, by omega, fun r hr => by have hit : itemR t len pl h = none := (by unfold itemR; rw [if_neg a110, if_neg a108, if_pos a107]; exact itK_n (num_out n1 (fun q => absurd q.2 (by omega)))); rw [hit] at hr; cases hr⟩
      · skip
        by_cases a115 : t pl = 115
        · rw [a115]
          refine ww_tabIn C (tgt := 206) dX7_item_20 (by decide) (by decide) rfl (by decide) ?_
          refine ww_aload0 C dX7_item_206 ?_
          refine ww_iconst C (v := nI 2) dX7_item_207 (by decide) ?_
          refine ww_bipush C (v := nI 59) dX7_item_208 (by decide) ?_
          refine ww_cV2vq C hM.1 rfl (m_figures g n w1 hM (t := t) (fun j hj => (congrFun hSm.1 j).trans (ht j hj)) ht256 hl4 (by omega) (c := 2) (sep := 59) (Or.inr rfl) (Or.inr rfl)) kV_X7_111 ⟨Nat.le_of_ble_eq_true rfl, Nat.le_of_ble_eq_true rfl⟩ ⟨rfl, rfl⟩ ⟨Nat.le_of_ble_eq_true rfl, Nat.le_of_ble_eq_true rfl⟩ (Nat.le_of_ble_eq_true rfl) dX7_item_210 (fun w7 hw7 => ?_)
          obtain ⟨F1, P1, hM, hf1, hF1, hP1, hI1⟩ := hw7
          have hf := hf.tr hf1
          have hSm := hSm.tr (Sm.all (fun b hb => hF1 b (by omega)))
          refine ww_ifeqB C (tgt := 243) dX7_item_213 (by decide) (fun c213 => ?_) (fun c213 => ?_)
          · skip
            refine ww_iconst C (v := nI 0) dX7_item_243 (by decide) ?_
            exact ww_rzq C dX7_item_244 rfl ⟨Nat.le_of_ble_eq_true rfl, Nat.le_of_ble_eq_true rfl⟩ (by have hit : itemR t len pl h = none := (by unfold itemR; rw [if_neg a110, if_neg a108, if_neg a107, if_pos a115]; exact itS_n (it2_no c213)); rw [hit]; rfl) ⟨_, _, hM, hf, hSm, by omega, fun r hr => by have hit : itemR t len pl h = none := (by unfold itemR; rw [if_neg a110, if_neg a108, if_neg a107, if_pos a115]; exact itS_n (it2_no c213)); rw [hit] at hr; cases hr⟩
          · skip
            obtain ⟨P3, n3, n4⟩ := (hI1 c213).two
            have l3 := (numR_le n3).2.1
            have l4 := (numR_le n4).2.1
            have l3 : F1 16 0 ≤ 999 := l3
            have l4 : F1 16 1 ≤ 999 := l4
            refine ww_aload0 C dX7_item_216 ?_
            refine ww_getf C fl_X7_58 hM.1 rfl dX7_item_217 ?_
            refine ww_iconst C (v := nI 0) dX7_item_220 (by decide) ?_
            refine ww_ialdN C hM.a16 (by decide) dX7_item_221 (kk := ?_)
            refine ww_iconst C (v := nI 5) dX7_item_222 (by decide) ?_
            refine ww_icmpgtN C (by omega) (tgt := 243) dX7_item_223 (by decide) (fun c223 => ?_) (fun c223 => ?_)
            · skip
              refine ww_iconst C (v := nI 0) dX7_item_243 (by decide) ?_
              exact ww_rzq C dX7_item_244 rfl ⟨Nat.le_of_ble_eq_true rfl, Nat.le_of_ble_eq_true rfl⟩ (by have hit : itemR t len pl h = none := (by unfold itemR; rw [if_neg a110, if_neg a108, if_neg a107, if_pos a115]; exact itS_n (Or.inl (num_out n3 (fun q => absurd q.2 (by omega))))); rw [hit]; rfl) ⟨_, _, hM, hf, hSm, by omega, fun r hr => by have hit : itemR t len pl h = none := (by unfold itemR; rw [if_neg a110, if_neg a108, if_neg a107, if_pos a115]; exact itS_n (Or.inl (num_out n3 (fun q => absurd q.2 (by omega))))); rw [hit] at hr; cases hr⟩
            · skip
              refine ww_aload0 C dX7_item_226 ?_
              refine ww_getf C fl_X7_58 hM.1 rfl dX7_item_227 ?_
              refine ww_iconst C (v := nI 1) dX7_item_230 (by decide) ?_
              refine ww_ialdN C hM.a16 (by decide) dX7_item_231 (kk := ?_)
              refine ww_i2lN C (by omega) dX7_item_232 ?_
              refine ww_lconst C (v := lN 1) dX7_item_233 (by decide) ?_
              refine ww_ldc2 C (v := 9) kc_X7_121 dX7_item_234 ?_
              refine ww_topl (show (9 : Int64) = lN 9 by decide) ?_
              refine ww_cS3v C (c_inR g n w7 _ _ _) kS_X7_88 ⟨Nat.le_of_ble_eq_true rfl, Nat.le_of_ble_eq_true rfl⟩ ⟨rfl, rfl⟩ ⟨Nat.le_of_ble_eq_true rfl, Nat.le_of_ble_eq_true rfl⟩ (Nat.le_of_ble_eq_true rfl) dX7_item_237 ?_
              refine ww_topi (show bz _ = bz (decide (1 ≤ F1 16 1 ∧ F1 16 1 ≤ 9)) by rw [in_N (by omega) (by decide) (by decide)]) ?_
              refine ww_ifneB C (tgt := 245) dX7_item_240 (by decide) (fun c240 => ?_) (fun c240 => ?_)
              · skip
                refine ww_aload0 C dX7_item_245 ?_
                refine ww_getf C fl_X7_37 hM.1 rfl dX7_item_246 ?_
                refine ww_bipush C (v := nI 6) dX7_item_249 (by decide) ?_
                refine ww_aload0 C dX7_item_251 ?_
                refine ww_getf C fl_X7_58 hM.1 rfl dX7_item_252 ?_
                refine ww_iconst C (v := nI 0) dX7_item_255 (by decide) ?_
                refine ww_ialdN C hM.a16 (by decide) dX7_item_256 (kk := ?_)
                refine ww_iaddN C dX7_item_257 ?_
                refine ww_aload0 C dX7_item_258 ?_
                refine ww_getf C fl_X7_58 hM.1 rfl dX7_item_259 ?_
                refine ww_iconst C (v := nI 1) dX7_item_262 (by decide) ?_
                refine ww_ialdN C hM.a16 (by decide) dX7_item_263 (kk := ?_)
                refine ww_iastN C hM.a9 (by omega) dX7_item_264 (kk := fun w8 hw8 => ?_)
                have hf : fr w w8 59 83 := hf.tr (fr.up hw8 (by omega) (by omega))
                obtain ⟨A8, hM, e8, o8⟩ := hM.st 9 (by decide) hw8
                have hSm := hSm.tr (Sm.st e8 o8 (by omega))
                refine ww_iconst C (v := nI 1) dX7_item_265 (by decide) ?_
                exact ww_rzq C dX7_item_266 rfl ⟨Nat.le_of_ble_eq_true rfl, Nat.le_of_ble_eq_true rfl⟩ (by have hit : itemR t len pl h = some _ := (by unfold itemR; rw [if_neg a110, if_neg a108, if_neg a107, if_pos a115]; exact itS_s (num_in n3 (Nat.zero_le _) (by omega)) (num_in n4 (of_decide_eq_true c240).1 (of_decide_eq_true c240).2)); rw [hit]; rfl) ⟨_, _, hM, hf, hSm, by omega, fun r hr => by have hit : itemR t len pl h = some _ := (by unfold itemR; rw [if_neg a110, if_neg a108, if_neg a107, if_pos a115]; exact itS_s (num_in n3 (Nat.zero_le _) (by omega)) (num_in n4 (of_decide_eq_true c240).1 (of_decide_eq_true c240).2)); rw [hit] at hr; cases hr; exact ⟨rfl, (hDR.told hF1).be e8 o8⟩⟩
              · skip
                refine ww_iconst C (v := nI 0) dX7_item_243 (by decide) ?_
                exact ww_rzq C dX7_item_244 rfl ⟨Nat.le_of_ble_eq_true rfl, Nat.le_of_ble_eq_true rfl⟩ (by have hit : itemR t len pl h = none := (by unfold itemR; rw [if_neg a110, if_neg a108, if_neg a107, if_pos a115]; exact itS_n (Or.inr ⟨_, num_in n3 (Nat.zero_le _) (by omega), num_out n4 (of_decide_eq_false c240)⟩)); rw [hit]; rfl) ⟨_, _, hM, hf, hSm, by omega, fun r hr => by have hit : itemR t len pl h = none := (by unfold itemR; rw [if_neg a110, if_neg a108, if_neg a107, if_pos a115]; exact itS_n (Or.inr ⟨_, num_in n3 (Nat.zero_le _) (by omega), num_out n4 (of_decide_eq_false c240)⟩)); rw [hit] at hr; cases hr⟩
        · skip
          by_cases a98 : t pl = 98
          · rw [a98]
            refine ww_tabIn C (tgt := 267) dX7_item_20 (by decide) (by decide) rfl (by decide) ?_
            refine ww_aload0 C dX7_item_267 ?_
            refine ww_iconst C (v := nI 2) dX7_item_268 (by decide) ?_
            refine ww_bipush C (v := nI 59) dX7_item_269 (by decide) ?_
            refine ww_cV2vq C hM.1 rfl (m_figures g n w1 hM (t := t) (fun j hj => (congrFun hSm.1 j).trans (ht j hj)) ht256 hl4 (by omega) (c := 2) (sep := 59) (Or.inr rfl) (Or.inr rfl)) kV_X7_111 ⟨Nat.le_of_ble_eq_true rfl, Nat.le_of_ble_eq_true rfl⟩ ⟨rfl, rfl⟩ ⟨Nat.le_of_ble_eq_true rfl, Nat.le_of_ble_eq_true rfl⟩ (Nat.le_of_ble_eq_true rfl) dX7_item_271 (fun w9 hw9 => ?_)
            obtain ⟨F1, P1, hM, hf1, hF1, hP1, hI1⟩ := hw9
            have hf := hf.tr hf1
            have hSm := hSm.tr (Sm.all (fun b hb => hF1 b (by omega)))
            refine ww_ifeqB C (tgt := 305) dX7_item_274 (by decide) (fun c274 => ?_) (fun c274 => ?_)
            · skip
              refine ww_iconst C (v := nI 0) dX7_item_305 (by decide) ?_
              exact ww_rzq C dX7_item_306 rfl ⟨Nat.le_of_ble_eq_true rfl, Nat.le_of_ble_eq_true rfl⟩ (by have hit : itemR t len pl h = none := (by unfold itemR; rw [if_neg a110, if_neg a108, if_neg a107, if_neg a115, if_pos a98]; exact itB_n (it2_no c274)); rw [hit]; rfl) ⟨_, _, hM, hf, hSm, by omega, fun r hr => by have hit : itemR t len pl h = none := (by unfold itemR; rw [if_neg a110, if_neg a108, if_neg a107, if_neg a115, if_pos a98]; exact itB_n (it2_no c274)); rw [hit] at hr; cases hr⟩
            · skip
              obtain ⟨P3, n3, n4⟩ := (hI1 c274).two
              have l3 := (numR_le n3).2.1
              have l4 := (numR_le n4).2.1
              have l3 : F1 16 0 ≤ 999 := l3
              have l4 : F1 16 1 ≤ 999 := l4
              refine ww_aload0 C dX7_item_277 ?_
              refine ww_getf C fl_X7_58 hM.1 rfl dX7_item_278 ?_
              refine ww_iconst C (v := nI 0) dX7_item_281 (by decide) ?_
              refine ww_ialdN C hM.a16 (by decide) dX7_item_282 (kk := ?_)
              refine ww_i2lN C (by omega) dX7_item_283 ?_
              refine ww_lconst C (v := lN 1) dX7_item_284 (by decide) ?_
              refine ww_ldc2 C (v := 12) kc_X7_123 dX7_item_285 ?_
              refine ww_topl (show (12 : Int64) = lN 12 by decide) ?_
              refine ww_cS3v C (c_inR g n w9 _ _ _) kS_X7_88 ⟨Nat.le_of_ble_eq_true rfl, Nat.le_of_ble_eq_true rfl⟩ ⟨rfl, rfl⟩ ⟨Nat.le_of_ble_eq_true rfl, Nat.le_of_ble_eq_true rfl⟩ (Nat.le_of_ble_eq_true rfl) dX7_item_288 ?_
              refine ww_topi (show bz _ = bz (decide (1 ≤ F1 16 0 ∧ F1 16 0 ≤ 12)) by rw [in_N (by omega) (by decide) (by decide)]) ?_
              refine ww_ifeqB C (tgt := 305) dX7_item_291 (by decide) (fun c291 => ?_) (fun c291 => ?_)
              · skip
                refine ww_iconst C (v := nI 0) dX7_item_305 (by decide) ?_
                exact ww_rzq C dX7_item_306 rfl ⟨Nat.le_of_ble_eq_true rfl, Nat.le_of_ble_eq_true rfl⟩ (by have hit : itemR t len pl h = none := (by unfold itemR; rw [if_neg a110, if_neg a108, if_neg a107, if_neg a115, if_pos a98]; exact itB_n (Or.inl (num_out n3 (of_decide_eq_false c291)))); rw [hit]; rfl) ⟨_, _, hM, hf, hSm, by omega, fun r hr => by have hit : itemR t len pl h = none := (by unfold itemR; rw [if_neg a110, if_neg a108, if_neg a107, if_neg a115, if_pos a98]; exact itB_n (Or.inl (num_out n3 (of_decide_eq_false c291)))); rw [hit] at hr; cases hr⟩
              · skip
                refine ww_aload0 C dX7_item_294 ?_
                refine ww_getf C fl_X7_58 hM.1 rfl dX7_item_295 ?_
                refine ww_iconst C (v := nI 1) dX7_item_298 (by decide) ?_
                refine ww_ialdN C hM.a16 (by decide) dX7_item_299 (kk := ?_)
                refine ww_bipush C (v := nI 20) dX7_item_300 (by decide) ?_
                refine ww_icmpleN C (by omega) (tgt := 307) dX7_item_302 (by decide) (fun c302 => ?_) (fun c302 => ?_)
                · skip
                  refine ww_aload0 C dX7_item_307 ?_
                  refine ww_getf C fl_X7_40 hM.1 rfl dX7_item_308 ?_
                  refine ww_iconst C (v := nI 3) dX7_item_311 (by decide) ?_
                  refine ww_aload0 C dX7_item_312 ?_
                  refine ww_getf C fl_X7_58 hM.1 rfl dX7_item_313 ?_
                  refine ww_iconst C (v := nI 0) dX7_item_316 (by decide) ?_
                  refine ww_ialdN C hM.a16 (by decide) dX7_item_317 (kk := ?_)
                  refine ww_iastN C hM.a10 (by decide) dX7_item_318 (kk := fun w10 hw10 => ?_)
                  have hf : fr w w10 59 83 := hf.tr (fr.up hw10 (by omega) (by omega))
                  obtain ⟨A10, hM, e10, o10⟩ := hM.st 10 (by decide) hw10
                  have hSm := hSm.tr (Sm.st e10 o10 (by omega))
                  refine ww_aload0 C dX7_item_319 ?_
                  refine ww_getf C fl_X7_40 hM.1 rfl dX7_item_320 ?_
                  refine ww_iconst C (v := nI 4) dX7_item_323 (by decide) ?_
                  refine ww_aload0 C dX7_item_324 ?_
                  refine ww_getf C fl_X7_58 hM.1 rfl dX7_item_325 ?_
                  refine ww_iconst C (v := nI 1) dX7_item_328 (by decide) ?_
                  refine ww_ialdN C hM.a16 (by decide) dX7_item_329 (kk := ?_)
                  rw [show A10 16 1 = F1 16 1 from congrFun (o10 16 (by decide)) 1]
                  refine ww_iastN C hM.a10 (by decide) dX7_item_330 (kk := fun w11 hw11 => ?_)
                  have hf : fr w w11 59 83 := hf.tr (fr.up hw11 (by omega) (by omega))
                  obtain ⟨A11, hM, e11, o11⟩ := hM.st 10 (by decide) hw11
                  have hSm := hSm.tr (Sm.st e11 o11 (by omega))
                  refine ww_iconst C (v := nI 1) dX7_item_331 (by decide) ?_
                  exact ww_rzq C dX7_item_332 rfl ⟨Nat.le_of_ble_eq_true rfl, Nat.le_of_ble_eq_true rfl⟩ (by have hit : itemR t len pl h = some _ := (by unfold itemR; rw [if_neg a110, if_neg a108, if_neg a107, if_neg a115, if_pos a98]; exact itB_s (num_in n3 (of_decide_eq_true c291).1 (of_decide_eq_true c291).2) (num_in n4 (Nat.zero_le _) (by omega))); rw [hit]; rfl) ⟨_, _, hM, hf, hSm, by omega, fun r hr => by have hit : itemR t len pl h = some _ := (by unfold itemR; rw [if_neg a110, if_neg a108, if_neg a107, if_neg a115, if_pos a98]; exact itB_s (num_in n3 (of_decide_eq_true c291).1 (of_decide_eq_true c291).2) (num_in n4 (Nat.zero_le _) (by omega))); rw [hit] at hr; cases hr; exact ⟨rfl, (hDR.told hF1).bv (of_decide_eq_true c291).1 e10 o10 e11 o11⟩⟩
                · skip
                  refine ww_iconst C (v := nI 0) dX7_item_305 (by decide) ?_
                  exact ww_rzq C dX7_item_306 rfl ⟨Nat.le_of_ble_eq_true rfl, Nat.le_of_ble_eq_true rfl⟩ (by have hit : itemR t len pl h = none := (by unfold itemR; rw [if_neg a110, if_neg a108, if_neg a107, if_neg a115, if_pos a98]; exact itB_n (Or.inr ⟨_, num_in n3 (of_decide_eq_true c291).1 (of_decide_eq_true c291).2, num_out n4 (fun q => absurd q.2 (by omega))⟩)); rw [hit]; rfl) ⟨_, _, hM, hf, hSm, by omega, fun r hr => by have hit : itemR t len pl h = none := (by unfold itemR; rw [if_neg a110, if_neg a108, if_neg a107, if_neg a115, if_pos a98]; exact itB_n (Or.inr ⟨_, num_in n3 (of_decide_eq_true c291).1 (of_decide_eq_true c291).2, num_out n4 (fun q => absurd q.2 (by omega))⟩)); rw [hit] at hr; cases hr⟩
          · skip
            by_cases a109 : t pl = 109
            · rw [a109]
              refine ww_tabIn C (tgt := 333) dX7_item_20 (by decide) (by decide) rfl (by decide) ?_
              refine ww_aload0 C dX7_item_333 ?_
              refine ww_iconst C (v := nI 1) dX7_item_334 (by decide) ?_
              refine ww_bipush C (v := nI 59) dX7_item_335 (by decide) ?_
              refine ww_cV2vq C hM.1 rfl (m_figures g n w1 hM (t := t) (fun j hj => (congrFun hSm.1 j).trans (ht j hj)) ht256 hl4 (by omega) (c := 1) (sep := 59) (Or.inl rfl) (Or.inr rfl)) kV_X7_111 ⟨Nat.le_of_ble_eq_true rfl, Nat.le_of_ble_eq_true rfl⟩ ⟨rfl, rfl⟩ ⟨Nat.le_of_ble_eq_true rfl, Nat.le_of_ble_eq_true rfl⟩ (Nat.le_of_ble_eq_true rfl) dX7_item_337 (fun w12 hw12 => ?_)
              obtain ⟨F1, P1, hM, hf1, hF1, hP1, hI1⟩ := hw12
              have hf := hf.tr hf1
              have hSm := hSm.tr (Sm.all (fun b hb => hF1 b (by omega)))
              refine ww_ifeqB C (tgt := 354) dX7_item_340 (by decide) (fun c340 => ?_) (fun c340 => ?_)
              · skip
                refine ww_iconst C (v := nI 0) dX7_item_354 (by decide) ?_
                exact ww_rzq C dX7_item_355 rfl ⟨Nat.le_of_ble_eq_true rfl, Nat.le_of_ble_eq_true rfl⟩ (by have hit : itemR t len pl h = none := (by unfold itemR; rw [if_neg a110, if_neg a108, if_neg a107, if_neg a115, if_neg a98, if_pos a109]; exact itM_n (num_none (fg1_no c340))); rw [hit]; rfl) ⟨_, _, hM, hf, hSm, by omega, fun r hr => by have hit : itemR t len pl h = none := (by unfold itemR; rw [if_neg a110, if_neg a108, if_neg a107, if_neg a115, if_neg a98, if_pos a109]; exact itM_n (num_none (fg1_no c340))); rw [hit] at hr; cases hr⟩
              · skip
                have n1 := (hI1 c340).one
                have l1 := (numR_le n1).2.1
                have l1 : F1 16 0 ≤ 999 := l1
                refine ww_aload0 C dX7_item_343 ?_
                refine ww_getf C fl_X7_58 hM.1 rfl dX7_item_344 ?_
                refine ww_iconst C (v := nI 0) dX7_item_347 (by decide) ?_
                refine ww_ialdN C hM.a16 (by decide) dX7_item_348 (kk := ?_)
                refine ww_bipush C (v := nI 9) dX7_item_349 (by decide) ?_
                refine ww_icmpleN C (by omega) (tgt := 356) dX7_item_351 (by decide) (fun c351 => ?_) (fun c351 => ?_)
                · skip
                  refine ww_aload0 C dX7_item_356 ?_
                  refine ww_getf C fl_X7_40 hM.1 rfl dX7_item_357 ?_
                  refine ww_iconst C (v := nI 5) dX7_item_360 (by decide) ?_
                  refine ww_aload0 C dX7_item_361 ?_
                  refine ww_getf C fl_X7_58 hM.1 rfl dX7_item_362 ?_
                  refine ww_iconst C (v := nI 0) dX7_item_365 (by decide) ?_
                  refine ww_ialdN C hM.a16 (by decide) dX7_item_366 (kk := ?_)
                  refine ww_iastN C hM.a10 (by decide) dX7_item_367 (kk := fun w13 hw13 => ?_)
                  have hf : fr w w13 59 83 := hf.tr (fr.up hw13 (by omega) (by omega))
                  obtain ⟨A13, hM, e13, o13⟩ := hM.st 10 (by decide) hw13
                  have hSm := hSm.tr (Sm.st e13 o13 (by omega))
                  refine ww_iconst C (v := nI 1) dX7_item_368 (by decide) ?_
                  exact ww_rzq C dX7_item_369 rfl ⟨Nat.le_of_ble_eq_true rfl, Nat.le_of_ble_eq_true rfl⟩ (by have hit : itemR t len pl h = some _ := (by unfold itemR; rw [if_neg a110, if_neg a108, if_neg a107, if_neg a115, if_neg a98, if_pos a109]; exact itM_s (num_in n1 (Nat.zero_le _) (by omega))); rw [hit]; rfl) ⟨_, _, hM, hf, hSm, by omega, fun r hr => by have hit : itemR t len pl h = some _ := (by unfold itemR; rw [if_neg a110, if_neg a108, if_neg a107, if_neg a115, if_neg a98, if_pos a109]; exact itM_s (num_in n1 (Nat.zero_le _) (by omega))); rw [hit] at hr; cases hr; exact ⟨rfl, (hDR.told hF1).mi e13 o13⟩⟩
                · skip
                  refine ww_iconst C (v := nI 0) dX7_item_354 (by decide) ?_
                  exact ww_rzq C dX7_item_355 rfl ⟨Nat.le_of_ble_eq_true rfl, Nat.le_of_ble_eq_true rfl⟩ (by have hit : itemR t len pl h = none := (by unfold itemR; rw [if_neg a110, if_neg a108, if_neg a107, if_neg a115, if_neg a98, if_pos a109]; exact itM_n (num_out n1 (fun q => absurd q.2 (by omega)))); rw [hit]; rfl) ⟨_, _, hM, hf, hSm, by omega, fun r hr => by have hit : itemR t len pl h = none := (by unfold itemR; rw [if_neg a110, if_neg a108, if_neg a107, if_neg a115, if_neg a98, if_pos a109]; exact itM_n (num_out n1 (fun q => absurd q.2 (by omega)))); rw [hit] at hr; cases hr⟩
            · skip
              by_cases rg : t pl < 98 ∨ 115 < t pl
              · refine ww_tabOut C (tgt := 370) dX7_item_20 (by rw [nI_toInt (by omega)]; omega) (by decide) ?_
                refine ww_iconst C (v := nI 0) dX7_item_370 (by decide) ?_
                exact ww_rzq C dX7_item_371 rfl ⟨Nat.le_of_ble_eq_true rfl, Nat.le_of_ble_eq_true rfl⟩ (by unfold itemR; rw [if_neg a110, if_neg a108, if_neg a107, if_neg a115, if_neg a98, if_neg a109]; rfl) ⟨_, _, hM, hf, hSm, by omega, fun r hr => by unfold itemR at hr; rw [if_neg a110, if_neg a108, if_neg a107, if_neg a115, if_neg a98, if_neg a109] at hr; cases hr⟩
              · refine ww_tabIn C (tgt := 370) dX7_item_20 (by rw [nI_toInt (by omega)]; omega) (by rw [nI_toInt (by omega)]; omega) (tab_mdef (t pl) (by omega) (by omega) a98 a107 a108 a109 a110 a115) (by decide) ?_
                refine ww_iconst C (v := nI 0) dX7_item_370 (by decide) ?_
                exact ww_rzq C dX7_item_371 rfl ⟨Nat.le_of_ble_eq_true rfl, Nat.le_of_ble_eq_true rfl⟩ (by unfold itemR; rw [if_neg a110, if_neg a108, if_neg a107, if_neg a115, if_neg a98, if_neg a109]; rfl) ⟨_, _, hM, hf, hSm, by omega, fun r hr => by unfold itemR at hr; rw [if_neg a110, if_neg a108, if_neg a107, if_neg a115, if_neg a98, if_neg a109] at hr; cases hr⟩
/-- nothing told in book bk -/
def NH (B A : Nat → Nat → Nat) (bk : Nat) : Prop := (∀ b, ¬ b = 1 → ¬ b = 7 → ¬ b = 8 → ¬ b = 9 → ¬ b = 10 → B b = A b) ∧ B 1 = va_up (A 1) bk 0 ∧ (∀ d, d < 6 → B 7 (6 * bk + d) = d ∧ B 8 (6 * bk + d) = 0 ∧ B 9 (6 * bk + d) = 1) ∧ (∀ j, (j < 6 * bk ∨ 6 * bk + 6 ≤ j) → B 7 j = A 7 j ∧ B 8 j = A 8 j ∧ B 9 j = A 9 j) ∧ B 10 (3 * bk) = 4 ∧ B 10 (3 * bk + 1) = 3 ∧ B 10 (3 * bk + 2) = 1 ∧ ∀ j, (j < 3 * bk ∨ 3 * bk + 3 ≤ j) → B 10 j = A 10 j
theorem m_noHill (g : Gx) (n : Nat) (w : Wd) {A : Nat → Nat → Nat} {len pl km : Nat} (hM : MO w A len pl km) {bk : Nat} (hbk : bk ≤ 1) : CT g yX7_noHill cX7_noHill 3 none rm_X7_noHill n n w [.ref 59, .int (nI bk)] (R0q (fun w1 => ∃ B, MO w1 B len pl km ∧ fr w w1 59 83 ∧ NH B A bk)) := by
  have hf : fr w w 59 83 := fr.rf
  refine CT.start [some (.ref 59), some (.int (nI bk)), none] (by decide +kernel) rfl (Nat.le_of_ble_eq_true rfl) (fun x C hnm => ?_)
  refine ww_aload0 C dX7_noHill_0 ?_
  refine ww_getf C fl_X7_13 hM.1 rfl dX7_noHill_1 ?_
  refine ww_iload1 C dX7_noHill_4 ?_
  refine ww_iconst C (v := nI 0) dX7_noHill_5 (by decide) ?_
  refine ww_iastN C hM.a1 (by omega) dX7_noHill_6 (kk := fun w1 hw1 => ?_)
  have hf : fr w w1 59 83 := hf.tr (fr.up hw1 (by omega) (by omega))
  obtain ⟨A1, hM, e1, o1⟩ := hM.st 1 (by decide) hw1
  refine ww_iconst C (v := nI 0) dX7_noHill_7 (by decide) ?_
  refine ww_istore2 C dX7_noHill_8 (by decide) rfl ?_
  have lp9 : ∀ (m : Nat) (d : Nat) (B : Nat → Nat → Nat) (u : Wd), d ≤ 6 → 6 < d + m → (∀ b, ¬ b = 1 → ¬ b = 7 → ¬ b = 8 → ¬ b = 9 → B b = A b) → B 1 = va_up (A 1) bk 0 → (∀ e, e < d → B 7 (6 * bk + e) = e ∧ B 8 (6 * bk + e) = 0 ∧ B 9 (6 * bk + e) = 1) → (∀ j, (j < 6 * bk ∨ 6 * bk + 6 ≤ j) → B 7 j = A 7 j ∧ B 8 j = A 8 j ∧ B 9 j = A 9 j) → MO u B len pl km → fr w u 59 83 → WW g x 3 0 0 n u 9 [some (.ref 59), some (.int (nI bk)), some (.int (nI d))] [] := by
    intro m
    induction m with
    | zero =>
      intro d B u hd0 hm hBo h1B hin hout hM hf
      exact absurd hm (by omega)
    | succ m ih9 =>
      intro d B u hd0 hm hBo h1B hin hout hM hf
      refine ww_iload2 C dX7_noHill_9 ?_
      refine ww_bipush C (v := nI 6) dX7_noHill_10 (by decide) ?_
      refine ww_icmpgeN C (by omega) (tgt := 57) dX7_noHill_12 (by decide) (fun c12 => ?_) (fun c12 => ?_)
      · skip
        refine ww_aload0 C dX7_noHill_57 ?_
        refine ww_getf C fl_X7_40 hM.1 rfl dX7_noHill_58 ?_
        refine ww_iconst C (v := nI 3) dX7_noHill_61 (by decide) ?_
        refine ww_iload1 C dX7_noHill_62 ?_
        refine ww_imulN C dX7_noHill_63 ?_
        refine ww_iconst C (v := nI 4) dX7_noHill_64 (by decide) ?_
        refine ww_iastN C hM.a10 (by omega) dX7_noHill_65 (kk := fun w2 hw2 => ?_)
        have hf : fr w w2 59 83 := hf.tr (fr.up hw2 (by omega) (by omega))
        obtain ⟨A2, hM, e2, o2⟩ := hM.st 10 (by decide) hw2
        refine ww_aload0 C dX7_noHill_66 ?_
        refine ww_getf C fl_X7_40 hM.1 rfl dX7_noHill_67 ?_
        refine ww_iconst C (v := nI 3) dX7_noHill_70 (by decide) ?_
        refine ww_iload1 C dX7_noHill_71 ?_
        refine ww_imulN C dX7_noHill_72 ?_
        refine ww_iconst C (v := nI 1) dX7_noHill_73 (by decide) ?_
        refine ww_iaddN C dX7_noHill_74 ?_
        refine ww_iconst C (v := nI 3) dX7_noHill_75 (by decide) ?_
        refine ww_iastN C hM.a10 (by omega) dX7_noHill_76 (kk := fun w3 hw3 => ?_)
        have hf : fr w w3 59 83 := hf.tr (fr.up hw3 (by omega) (by omega))
        obtain ⟨A3, hM, e3, o3⟩ := hM.st 10 (by decide) hw3
        refine ww_aload0 C dX7_noHill_77 ?_
        refine ww_getf C fl_X7_40 hM.1 rfl dX7_noHill_78 ?_
        refine ww_iconst C (v := nI 3) dX7_noHill_81 (by decide) ?_
        refine ww_iload1 C dX7_noHill_82 ?_
        refine ww_imulN C dX7_noHill_83 ?_
        refine ww_iconst C (v := nI 2) dX7_noHill_84 (by decide) ?_
        refine ww_iaddN C dX7_noHill_85 ?_
        refine ww_iconst C (v := nI 1) dX7_noHill_86 (by decide) ?_
        refine ww_iastN C hM.a10 (by omega) dX7_noHill_87 (kk := fun w4 hw4 => ?_)
        have hf : fr w w4 59 83 := hf.tr (fr.up hw4 (by omega) (by omega))
        obtain ⟨A4, hM, e4, o4⟩ := hM.st 10 (by decide) hw4
        exact ww_rvq C dX7_noHill_88 rfl ⟨Nat.le_of_ble_eq_true rfl, Nat.le_of_ble_eq_true rfl⟩ ⟨A4, hM, hf, fun b h1 h7 h8 h9 h10 => (o4 b h10).trans ((o3 b h10).trans ((o2 b h10).trans (hBo b h1 h7 h8 h9))), (o4 1 (by decide)).trans ((o3 1 (by decide)).trans ((o2 1 (by decide)).trans h1B)), fun d2 hd2 => by have q := hin d2 (by omega); rw [o4 7 (by decide), o3 7 (by decide), o2 7 (by decide), o4 8 (by decide), o3 8 (by decide), o2 8 (by decide), o4 9 (by decide), o3 9 (by decide), o2 9 (by decide)]; exact q, fun j hj => by have q := hout j hj; rw [o4 7 (by decide), o3 7 (by decide), o2 7 (by decide), o4 8 (by decide), o3 8 (by decide), o2 8 (by decide), o4 9 (by decide), o3 9 (by decide), o2 9 (by decide)]; exact q, (up_no e4 (by omega)).trans ((up_no e3 (by omega)).trans (up_at e2 rfl)), (up_no e4 (by omega)).trans (up_at e3 rfl), up_at e4 rfl, fun j hj => (up_no e4 (by omega)).trans ((up_no e3 (by omega)).trans ((up_no e2 (by omega)).trans (congrFun (hBo 10 (by decide) (by decide) (by decide) (by decide)) j)))⟩
      · skip
        refine ww_aload0 C dX7_noHill_15 ?_
        refine ww_getf C fl_X7_31 hM.1 rfl dX7_noHill_16 ?_
        refine ww_bipush C (v := nI 6) dX7_noHill_19 (by decide) ?_
        refine ww_iload1 C dX7_noHill_21 ?_
        refine ww_imulN C dX7_noHill_22 ?_
        refine ww_iload2 C dX7_noHill_23 ?_
        refine ww_iaddN C dX7_noHill_24 ?_
        refine ww_iload2 C dX7_noHill_25 ?_
        refine ww_iastN C hM.a7 (by omega) dX7_noHill_26 (kk := fun w5 hw5 => ?_)
        have hf : fr w w5 59 83 := hf.tr (fr.up hw5 (by omega) (by omega))
        obtain ⟨A5, hM, e5, o5⟩ := hM.st 7 (by decide) hw5
        refine ww_aload0 C dX7_noHill_27 ?_
        refine ww_getf C fl_X7_34 hM.1 rfl dX7_noHill_28 ?_
        refine ww_bipush C (v := nI 6) dX7_noHill_31 (by decide) ?_
        refine ww_iload1 C dX7_noHill_33 ?_
        refine ww_imulN C dX7_noHill_34 ?_
        refine ww_iload2 C dX7_noHill_35 ?_
        refine ww_iaddN C dX7_noHill_36 ?_
        refine ww_iconst C (v := nI 0) dX7_noHill_37 (by decide) ?_
        refine ww_iastN C hM.a8 (by omega) dX7_noHill_38 (kk := fun w6 hw6 => ?_)
        have hf : fr w w6 59 83 := hf.tr (fr.up hw6 (by omega) (by omega))
        obtain ⟨A6, hM, e6, o6⟩ := hM.st 8 (by decide) hw6
        refine ww_aload0 C dX7_noHill_39 ?_
        refine ww_getf C fl_X7_37 hM.1 rfl dX7_noHill_40 ?_
        refine ww_bipush C (v := nI 6) dX7_noHill_43 (by decide) ?_
        refine ww_iload1 C dX7_noHill_45 ?_
        refine ww_imulN C dX7_noHill_46 ?_
        refine ww_iload2 C dX7_noHill_47 ?_
        refine ww_iaddN C dX7_noHill_48 ?_
        refine ww_iconst C (v := nI 1) dX7_noHill_49 (by decide) ?_
        refine ww_iastN C hM.a9 (by omega) dX7_noHill_50 (kk := fun w7 hw7 => ?_)
        have hf : fr w w7 59 83 := hf.tr (fr.up hw7 (by omega) (by omega))
        obtain ⟨A7, hM, e7, o7⟩ := hM.st 9 (by decide) hw7
        refine ww_iincN2 C dX7_noHill_51 (by decide) rfl ?_
        refine ww_goto C (tgt := 9) dX7_noHill_54 (by decide) ?_
        exact ih9 (d + 1) A7 _ (by omega) (by omega) (fun b h1 h7 h8 h9 => (o7 b h9).trans ((o6 b h8).trans ((o5 b h7).trans (hBo b h1 h7 h8 h9)))) ((o7 1 (by decide)).trans ((o6 1 (by decide)).trans ((o5 1 (by decide)).trans h1B))) (fun e he => by by_cases c : e = d; (rw [c]; exact ⟨(congrFun ((o7 7 (by decide)).trans (o6 7 (by decide))) _).trans (up_at e5 rfl), (congrFun (o7 8 (by decide)) _).trans (up_at e6 rfl), up_at e7 rfl⟩); (exact ⟨(congrFun ((o7 7 (by decide)).trans (o6 7 (by decide))) _).trans ((up_no e5 (by omega)).trans (hin e (by omega)).1), (congrFun (o7 8 (by decide)) _).trans ((up_no e6 (by omega)).trans ((congrFun (o5 8 (by decide)) _).trans (hin e (by omega)).2.1)), (up_no e7 (by omega)).trans ((congrFun ((o6 9 (by decide)).trans (o5 9 (by decide))) _).trans (hin e (by omega)).2.2)⟩)) (fun j hj => ⟨(congrFun ((o7 7 (by decide)).trans (o6 7 (by decide))) _).trans ((up_no e5 (by omega)).trans (hout j hj).1), (congrFun (o7 8 (by decide)) _).trans ((up_no e6 (by omega)).trans ((congrFun (o5 8 (by decide)) _).trans (hout j hj).2.1)), (up_no e7 (by omega)).trans ((congrFun ((o6 9 (by decide)).trans (o5 9 (by decide))) _).trans (hout j hj).2.2)⟩) hM hf
  exact lp9 (7) 0 A1 _ (by omega) (by omega) (fun b h1 _ _ _ => o1 b h1) e1 (fun e he => absurd he (by omega)) (fun j _ => ⟨congrFun (o1 7 (by decide)) j, congrFun (o1 8 (by decide)) j, congrFun (o1 9 (by decide)) j⟩) hM hf
theorem NH.sm {B A : Nat → Nat → Nat} (h : NH B A 1) : Sm B A := by
  obtain ⟨h1, h2, h3, h4, h5, h6, h7, h8⟩ := h
  exact ⟨h1 0 (by decide) (by decide) (by decide) (by decide) (by decide), up_no h2 (by decide), fun i _ => ⟨congrFun (h1 5 (by decide) (by decide) (by decide) (by decide) (by decide)) i, congrFun (h1 6 (by decide) (by decide) (by decide) (by decide) (by decide)) i⟩, fun d hd => h4 d (by omega), fun k hk => h8 k (by omega), fun j _ => ⟨congrFun (h1 11 (by decide) (by decide) (by decide) (by decide) (by decide)) j, congrFun (h1 12 (by decide) (by decide) (by decide) (by decide) (by decide)) j⟩, fun j _ => congrFun (h1 13 (by decide) (by decide) (by decide) (by decide) (by decide)) j, h1 14 (by decide) (by decide) (by decide) (by decide) (by decide), h1 15 (by decide) (by decide) (by decide) (by decide) (by decide)⟩
theorem NH.dr {B A : Nat → Nat → Nat} (h : NH B A 1) : DR B H0 := by
  obtain ⟨h1, h2, h3, h4, h5, h6, h7, h8⟩ := h
  refine ⟨up_at h2 rfl, by decide, fun i hi => absurd hi (Nat.not_lt_zero i), fun d hd => ?_, h5, h6, h7, by decide⟩
  obtain ⟨a, b, c⟩ := h3 d hd
  have f1 : H0.2.2.2.2.2.2.1 d = d := filN_lt (f := fun d => d) (h := fun _ => 0) hd
  have f2 : H0.2.2.2.2.2.2.2.1 d = 0 := filN_lt (f := fun _ => 0) (h := fun _ => 0) hd
  have f3 : H0.2.2.2.2.2.2.2.2.1 d = 1 := filN_lt (f := fun _ => 1) (h := fun _ => 0) hd
  rw [f1, f2, f3]
  exact ⟨a, b, c⟩
