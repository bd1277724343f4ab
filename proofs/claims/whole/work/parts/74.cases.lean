section CASES
variable {g : Gx} {p : Program} {e : Env} {s : State} {m : MethodId} {below : List Frame} {meth : Method} {c : Code} {b L : Nat} {xs : Nat → Int32} {w : Wd} {i : Nat}
theorem lc_write (A : LF g p s m meth c b L xs) (hi : i + 5 ≤ L) (hI : Iv w) (kk : ∀ w2, Iv w2 → WL g p e s m below meth c b w2 827 i []) : WL g p e s m below meth c b w 144 i [] := by
  obtain ⟨t, len, h, a, kn, k1, k2, hC, hM, hE⟩ := hI
  obtain ⟨hB, hBk, ht⟩ := hC.bd hE.1 hE.2.1 hE.2.2.1
  obtain ⟨fs0, hk0⟩ := hC.ob
  refine wl_al1 A dL_law_144 ?_
  refine wl_arg A (k := 1) dL_law_145 dL_law_146 dL_law_147 dL_law_148 dL_law_149 (by decide) (by omega) ?_
  refine wl_arg A (k := 2) dL_law_150 dL_law_151 dL_law_152 dL_law_153 dL_law_154 (by decide) (by omega) ?_
  refine wl_i2l A dL_law_155 ?_
  refine wl_bipush A (v := nI 32) dL_law_156 (by decide) ?_
  refine wl_lshl A dL_law_158 ?_
  refine wl_arg A (k := 3) dL_law_159 dL_law_160 dL_law_161 dL_law_162 dL_law_163 (by decide) (by omega) ?_
  refine wl_i2l A dL_law_164 ?_
  refine wl_ldc2 A kc_L_13 dL_law_165 ?_
  refine wl_land A dL_law_168 ?_
  refine wl_lor A dL_law_169 ?_
  refine wl_cV A (as := [.int (xs (i + 1)), .long ((xs (i + 2)).toInt64 <<< ((nI 32).toInt64 &&& 63) ||| (xs (i + 3)).toInt64 &&& 4294967295)]) (rest := []) hk0 rfl (d_write g 83 w hC _ _) kV_L_15 ⟨Nat.le_of_ble_eq_true rfl, Nat.le_of_ble_eq_true rfl⟩ ⟨rfl, rfl⟩ rfl rfl rfl rfl (Nat.le_of_ble_eq_true rfl) dL_law_170 (fun w1 h1 => ?_)
  obtain ⟨hC1, hf1⟩ := h1
  have hM1 := hM.frm hf1
  obtain ⟨fs1, hk1⟩ := hM1.ob
  refine wl_al2 A dL_law_173 ?_
  refine wl_arg A (k := 1) dL_law_174 dL_law_175 dL_law_176 dL_law_177 dL_law_178 (by decide) (by omega) ?_
  refine wl_arg A (k := 2) dL_law_179 dL_law_180 dL_law_181 dL_law_182 dL_law_183 (by decide) (by omega) ?_
  refine wl_i2l A dL_law_184 ?_
  refine wl_bipush A (v := nI 32) dL_law_185 (by decide) ?_
  refine wl_lshl A dL_law_187 ?_
  refine wl_arg A (k := 3) dL_law_188 dL_law_189 dL_law_190 dL_law_191 dL_law_192 (by decide) (by omega) ?_
  refine wl_i2l A dL_law_193 ?_
  refine wl_ldc2 A kc_L_13 dL_law_194 ?_
  refine wl_land A dL_law_197 ?_
  refine wl_lor A dL_law_198 ?_
  refine wl_cV A (as := [.int (xs (i + 1)), .long ((xs (i + 2)).toInt64 <<< ((nI 32).toInt64 &&& 63) ||| (xs (i + 3)).toInt64 &&& 4294967295)]) (rest := [.int _]) hk1 rfl (m_write g 83 w1 hM1 hB hBk _ _) kV_L_19 ⟨Nat.le_of_ble_eq_true rfl, Nat.le_of_ble_eq_true rfl⟩ ⟨rfl, rfl⟩ rfl rfl rfl rfl (Nat.le_of_ble_eq_true rfl) dL_law_199 (fun w2 h2 => ?_)
  obtain ⟨hM2, hf2⟩ := h2
  have hC2 := hC1.frm hf2
  exact wl_eq A dL_law_202 (by decide) (kk w2 ⟨_, _, _, _, _, _, _, hC2, hM2, hE⟩)
theorem lc_wipe (A : LF g p s m meth c b L xs) (hi : i + 5 ≤ L) (hI : Iv w) (kk : ∀ w2, Iv w2 → WL g p e s m below meth c b w2 827 i []) : WL g p e s m below meth c b w 207 i [] := by
  obtain ⟨t, len, h, a, kn, k1, k2, hC, hM, hE⟩ := hI
  obtain ⟨hB, hBk, ht⟩ := hC.bd hE.1 hE.2.1 hE.2.2.1
  obtain ⟨fs0, hk0⟩ := hC.ob
  refine wl_al1 A dL_law_207 ?_
  refine wl_cV A (as := []) (rest := []) hk0 rfl (d_wipe g 83 w hC) kV_L_20 ⟨Nat.le_of_ble_eq_true rfl, Nat.le_of_ble_eq_true rfl⟩ ⟨rfl, rfl⟩ rfl rfl rfl rfl (Nat.le_of_ble_eq_true rfl) dL_law_208 (fun w1 h1 => ?_)
  obtain ⟨hC1, hf1⟩ := h1
  have hM1 := hM.frm hf1
  obtain ⟨fs1, hk1⟩ := hM1.ob
  refine wl_al2 A dL_law_211 ?_
  obtain ⟨A9, pl9, hMO, hR9⟩ := hM1
  refine wl_cV A (as := []) (rest := [.int _]) hk1 rfl (m_wipe g 83 w1 hMO) kV_L_24 ⟨Nat.le_of_ble_eq_true rfl, Nat.le_of_ble_eq_true rfl⟩ ⟨rfl, rfl⟩ rfl rfl rfl rfl (Nat.le_of_ble_eq_true rfl) dL_law_212 (fun w2 h2 => ?_)
  obtain ⟨hM2, hf2⟩ := h2
  have hC2 := hC1.frm hf2
  have hM3 : MR w2 t 0 h a kn k1 k2 := ⟨A9, pl9, hM2, by decide, hR9.2.1, fun j hj => absurd hj (Nat.not_lt_zero j), hR9.2.2.2⟩
  exact wl_eq A dL_law_215 (by decide) (kk w2 ⟨_, _, _, _, _, _, _, hC2, hM3, hE⟩)
theorem lc_fault (A : LF g p s m meth c b L xs) (hi : i + 5 ≤ L) (hI : Iv w) (kk : ∀ w2, Iv w2 → WL g p e s m below meth c b w2 827 i []) : WL g p e s m below meth c b w 220 i [] := by
  obtain ⟨t, len, h, a, kn, k1, k2, hC, hM, hE⟩ := hI
  obtain ⟨hB, hBk, ht⟩ := hC.bd hE.1 hE.2.1 hE.2.2.1
  obtain ⟨fs0, hk0⟩ := hC.ob
  refine wl_al1 A dL_law_220 ?_
  refine wl_cV A (as := []) (rest := []) hk0 rfl (d_fault g 83 w hC) kV_L_25 ⟨Nat.le_of_ble_eq_true rfl, Nat.le_of_ble_eq_true rfl⟩ ⟨rfl, rfl⟩ rfl rfl rfl rfl (Nat.le_of_ble_eq_true rfl) dL_law_221 (fun w1 h1 => ?_)
  obtain ⟨hC1, hf1⟩ := h1
  have hM1 := hM.frm hf1
  obtain ⟨fs1, hk1⟩ := hM1.ob
  refine wl_al2 A dL_law_224 ?_
  refine wl_cV A (as := []) (rest := [.int _]) hk1 rfl (m_fault g 83 w1 hM1 hB hBk ht) kV_L_28 ⟨Nat.le_of_ble_eq_true rfl, Nat.le_of_ble_eq_true rfl⟩ ⟨rfl, rfl⟩ rfl rfl rfl rfl (Nat.le_of_ble_eq_true rfl) dL_law_225 (fun w2 h2 => ?_)
  obtain ⟨hM2, hf2⟩ := h2
  have hC2 := hC1.frm hf2
  exact wl_eq A dL_law_228 (by decide) (kk w2 ⟨_, _, _, _, _, _, _, hC2, hM2, hE⟩)
theorem lc_lay (A : LF g p s m meth c b L xs) (hi : i + 5 ≤ L) (hI : Iv w) (kk : ∀ w2, Iv w2 → WL g p e s m below meth c b w2 827 i []) : WL g p e s m below meth c b w 233 i [] := by
  obtain ⟨t, len, h, a, kn, k1, k2, hC, hM, hE⟩ := hI
  obtain ⟨hB, hBk, ht⟩ := hC.bd hE.1 hE.2.1 hE.2.2.1
  obtain ⟨fs0, hk0⟩ := hC.ob
  refine wl_al1 A dL_law_233 ?_
  refine wl_cV A (as := []) (rest := []) hk0 rfl (d_lay g 83 w hC) kV_L_29 ⟨Nat.le_of_ble_eq_true rfl, Nat.le_of_ble_eq_true rfl⟩ ⟨rfl, rfl⟩ rfl rfl rfl rfl (Nat.le_of_ble_eq_true rfl) dL_law_234 (fun w1 h1 => ?_)
  obtain ⟨h2, a2, kn2, hC1, hf1, hy, hn⟩ := h1
  have hM1 := hM.frm hf1
  obtain ⟨fs1, hk1⟩ := hM1.ob
  refine wl_al2 A dL_law_237 ?_
  refine wl_cV A (as := []) (rest := [.int _]) hk1 rfl (m_lay g 83 w1 hM1 hB hBk ht hy hn) kV_L_32 ⟨Nat.le_of_ble_eq_true rfl, Nat.le_of_ble_eq_true rfl⟩ ⟨rfl, rfl⟩ rfl rfl rfl rfl (Nat.le_of_ble_eq_true rfl) dL_law_238 (fun w2 h3 => ?_)
  obtain ⟨hM2, hf2, hex⟩ := h3
  have hC2 := hC1.frm hf2
  have hE2 : Ex h2 a2 kn2 k1 k2 := by
    by_cases ok : okL t len
    · obtain ⟨y1, y2, y3⟩ := hy ok
      obtain ⟨z1, z2⟩ := hex ok
      refine ⟨?_, z2, by rw [y2]; exact z1, fun c => absurd c (by omega), fun c => absurd c (by omega)⟩
      have h9 : ¬ (RD t len).2.2.2.2.1 = 0 := ok.2
      rw [y1.1]
      omega
    · obtain ⟨n1, n2, n3⟩ := hn ok
      rw [n1, n2, n3]
      exact hE
  exact wl_eq A dL_law_241 (by decide) (kk w2 ⟨_, _, _, _, _, _, _, hC2, hM2, hE2⟩)
theorem lc_person (A : LF g p s m meth c b L xs) (hi : i + 5 ≤ L) (hI : Iv w) (kk : ∀ w2, Iv w2 → WL g p e s m below meth c b w2 827 i []) : WL g p e s m below meth c b w 246 i [] := by
  obtain ⟨t, len, h, a, kn, k1, k2, hC, hM, hE⟩ := hI
  obtain ⟨hB, hBk, ht⟩ := hC.bd hE.1 hE.2.1 hE.2.2.1
  obtain ⟨fs0, hk0⟩ := hC.ob
  refine wl_al1 A dL_law_246 ?_
  refine wl_arg A (k := 1) dL_law_247 dL_law_248 dL_law_249 dL_law_250 dL_law_251 (by decide) (by omega) ?_
  refine wl_arg A (k := 2) dL_law_252 dL_law_253 dL_law_254 dL_law_255 dL_law_256 (by decide) (by omega) ?_
  refine wl_cV A (as := [.int (xs (i + 1)), .int (xs (i + 2))]) (rest := []) hk0 rfl (d_person g 83 w hC _ _) kV_L_33 ⟨Nat.le_of_ble_eq_true rfl, Nat.le_of_ble_eq_true rfl⟩ ⟨rfl, rfl⟩ rfl rfl rfl rfl (Nat.le_of_ble_eq_true rfl) dL_law_257 (fun w1 h1 => ?_)
  obtain ⟨hC1, hf1⟩ := h1
  have hM1 := hM.frm hf1
  obtain ⟨fs1, hk1⟩ := hM1.ob
  refine wl_al2 A dL_law_260 ?_
  refine wl_arg A (k := 1) dL_law_261 dL_law_262 dL_law_263 dL_law_264 dL_law_265 (by decide) (by omega) ?_
  refine wl_arg A (k := 2) dL_law_266 dL_law_267 dL_law_268 dL_law_269 dL_law_270 (by decide) (by omega) ?_
  refine wl_cV A (as := [.int (xs (i + 1)), .int (xs (i + 2))]) (rest := [.int _]) hk1 rfl (m_person g 83 w1 hM1 hB hBk _ _) kV_L_37 ⟨Nat.le_of_ble_eq_true rfl, Nat.le_of_ble_eq_true rfl⟩ ⟨rfl, rfl⟩ rfl rfl rfl rfl (Nat.le_of_ble_eq_true rfl) dL_law_271 (fun w2 h2 => ?_)
  obtain ⟨hM2, hf2⟩ := h2
  have hC2 := hC1.frm hf2
  exact wl_eq A dL_law_274 (by decide) (kk w2 ⟨_, _, _, _, _, _, _, hC2, hM2, hE⟩)
theorem lc_said (A : LF g p s m meth c b L xs) (hi : i + 5 ≤ L) (hI : Iv w) (kk : ∀ w2, Iv w2 → WL g p e s m below meth c b w2 827 i []) : WL g p e s m below meth c b w 279 i [] := by
  obtain ⟨t, len, h, a, kn, k1, k2, hC, hM, hE⟩ := hI
  obtain ⟨hB, hBk, ht⟩ := hC.bd hE.1 hE.2.1 hE.2.2.1
  obtain ⟨fs0, hk0⟩ := hC.ob
  refine wl_al1 A dL_law_279 ?_
  refine wl_arg A (k := 1) dL_law_280 dL_law_281 dL_law_282 dL_law_283 dL_law_284 (by decide) (by omega) ?_
  refine wl_arg A (k := 2) dL_law_285 dL_law_286 dL_law_287 dL_law_288 dL_law_289 (by decide) (by omega) ?_
  refine wl_cV A (as := [.int (xs (i + 1)), .int (xs (i + 2))]) (rest := []) hk0 rfl (d_said g 83 w hC _ _) kV_L_38 ⟨Nat.le_of_ble_eq_true rfl, Nat.le_of_ble_eq_true rfl⟩ ⟨rfl, rfl⟩ rfl rfl rfl rfl (Nat.le_of_ble_eq_true rfl) dL_law_290 (fun w1 h1 => ?_)
  obtain ⟨hC1, hf1⟩ := h1
  have hM1 := hM.frm hf1
  obtain ⟨fs1, hk1⟩ := hM1.ob
  refine wl_al2 A dL_law_293 ?_
  refine wl_arg A (k := 1) dL_law_294 dL_law_295 dL_law_296 dL_law_297 dL_law_298 (by decide) (by omega) ?_
  refine wl_arg A (k := 2) dL_law_299 dL_law_300 dL_law_301 dL_law_302 dL_law_303 (by decide) (by omega) ?_
  refine wl_cV A (as := [.int (xs (i + 1)), .int (xs (i + 2))]) (rest := [.int _]) hk1 rfl (m_said g 83 w1 hM1 hB hBk _ _) kV_L_41 ⟨Nat.le_of_ble_eq_true rfl, Nat.le_of_ble_eq_true rfl⟩ ⟨rfl, rfl⟩ rfl rfl rfl rfl (Nat.le_of_ble_eq_true rfl) dL_law_304 (fun w2 h2 => ?_)
  obtain ⟨hM2, hf2⟩ := h2
  have hC2 := hC1.frm hf2
  exact wl_eq A dL_law_307 (by decide) (kk w2 ⟨_, _, _, _, _, _, _, hC2, hM2, hE⟩)
theorem lc_deed (A : LF g p s m meth c b L xs) (hi : i + 5 ≤ L) (hI : Iv w) (kk : ∀ w2, Iv w2 → WL g p e s m below meth c b w2 827 i []) : WL g p e s m below meth c b w 312 i [] := by
  obtain ⟨t, len, h, a, kn, k1, k2, hC, hM, hE⟩ := hI
  obtain ⟨hB, hBk, ht⟩ := hC.bd hE.1 hE.2.1 hE.2.2.1
  obtain ⟨fs0, hk0⟩ := hC.ob
  refine wl_al1 A dL_law_312 ?_
  refine wl_arg A (k := 1) dL_law_313 dL_law_314 dL_law_315 dL_law_316 dL_law_317 (by decide) (by omega) ?_
  refine wl_arg A (k := 2) dL_law_318 dL_law_319 dL_law_320 dL_law_321 dL_law_322 (by decide) (by omega) ?_
  refine wl_cV A (as := [.int (xs (i + 1)), .int (xs (i + 2))]) (rest := []) hk0 rfl (d_deed g 83 w hC _ _) kV_L_42 ⟨Nat.le_of_ble_eq_true rfl, Nat.le_of_ble_eq_true rfl⟩ ⟨rfl, rfl⟩ rfl rfl rfl rfl (Nat.le_of_ble_eq_true rfl) dL_law_323 (fun w1 h1 => ?_)
  obtain ⟨hC1, hf1⟩ := h1
  have hM1 := hM.frm hf1
  obtain ⟨fs1, hk1⟩ := hM1.ob
  refine wl_al2 A dL_law_326 ?_
  refine wl_arg A (k := 1) dL_law_327 dL_law_328 dL_law_329 dL_law_330 dL_law_331 (by decide) (by omega) ?_
  refine wl_arg A (k := 2) dL_law_332 dL_law_333 dL_law_334 dL_law_335 dL_law_336 (by decide) (by omega) ?_
  refine wl_cV A (as := [.int (xs (i + 1)), .int (xs (i + 2))]) (rest := [.int _]) hk1 rfl (m_deed g 83 w1 hM1 hB hBk _ _) kV_L_45 ⟨Nat.le_of_ble_eq_true rfl, Nat.le_of_ble_eq_true rfl⟩ ⟨rfl, rfl⟩ rfl rfl rfl rfl (Nat.le_of_ble_eq_true rfl) dL_law_337 (fun w2 h2 => ?_)
  obtain ⟨hM2, hf2⟩ := h2
  have hC2 := hC1.frm hf2
  exact wl_eq A dL_law_340 (by decide) (kk w2 ⟨_, _, _, _, _, _, _, hC2, hM2, hE.deed _ _⟩)
theorem lc_kind (A : LF g p s m meth c b L xs) (hi : i + 5 ≤ L) (hI : Iv w) (kk : ∀ w2, Iv w2 → WL g p e s m below meth c b w2 827 i []) : WL g p e s m below meth c b w 345 i [] := by
  obtain ⟨t, len, h, a, kn, k1, k2, hC, hM, hE⟩ := hI
  obtain ⟨hB, hBk, ht⟩ := hC.bd hE.1 hE.2.1 hE.2.2.1
  obtain ⟨fs0, hk0⟩ := hC.ob
  refine wl_al1 A dL_law_345 ?_
  refine wl_arg A (k := 1) dL_law_346 dL_law_347 dL_law_348 dL_law_349 dL_law_350 (by decide) (by omega) ?_
  refine wl_arg A (k := 2) dL_law_351 dL_law_352 dL_law_353 dL_law_354 dL_law_355 (by decide) (by omega) ?_
  refine wl_cV A (as := [.int (xs (i + 1)), .int (xs (i + 2))]) (rest := []) hk0 rfl (d_kind g 83 w hC _ _) kV_L_46 ⟨Nat.le_of_ble_eq_true rfl, Nat.le_of_ble_eq_true rfl⟩ ⟨rfl, rfl⟩ rfl rfl rfl rfl (Nat.le_of_ble_eq_true rfl) dL_law_356 (fun w1 h1 => ?_)
  obtain ⟨hC1, hf1⟩ := h1
  have hM1 := hM.frm hf1
  obtain ⟨fs1, hk1⟩ := hM1.ob
  refine wl_al2 A dL_law_359 ?_
  refine wl_arg A (k := 1) dL_law_360 dL_law_361 dL_law_362 dL_law_363 dL_law_364 (by decide) (by omega) ?_
  refine wl_arg A (k := 2) dL_law_365 dL_law_366 dL_law_367 dL_law_368 dL_law_369 (by decide) (by omega) ?_
  refine wl_cV A (as := [.int (xs (i + 1)), .int (xs (i + 2))]) (rest := [.int _]) hk1 rfl (m_kind g 83 w1 hM1 hB hBk _ _) kV_L_49 ⟨Nat.le_of_ble_eq_true rfl, Nat.le_of_ble_eq_true rfl⟩ ⟨rfl, rfl⟩ rfl rfl rfl rfl (Nat.le_of_ble_eq_true rfl) dL_law_370 (fun w2 h2 => ?_)
  obtain ⟨hM2, hf2⟩ := h2
  have hC2 := hC1.frm hf2
  exact wl_eq A dL_law_373 (by decide) (kk w2 ⟨_, _, _, _, _, _, _, hC2, hM2, hE.kind _ _⟩)
theorem lc_cry (A : LF g p s m meth c b L xs) (hi : i + 5 ≤ L) (hI : Iv w) (kk : ∀ w2, Iv w2 → WL g p e s m below meth c b w2 827 i []) : WL g p e s m below meth c b w 378 i [] := by
  obtain ⟨t, len, h, a, kn, k1, k2, hC, hM, hE⟩ := hI
  obtain ⟨hB, hBk, ht⟩ := hC.bd hE.1 hE.2.1 hE.2.2.1
  obtain ⟨fs0, hk0⟩ := hC.ob
  refine wl_al1 A dL_law_378 ?_
  refine wl_arg A (k := 1) dL_law_379 dL_law_380 dL_law_381 dL_law_382 dL_law_383 (by decide) (by omega) ?_
  refine wl_cV A (as := [.int (xs (i + 1))]) (rest := []) hk0 rfl (d_cry g 83 w hC _ hE.2.1) kV_L_50 ⟨Nat.le_of_ble_eq_true rfl, Nat.le_of_ble_eq_true rfl⟩ ⟨rfl, rfl⟩ rfl rfl rfl rfl (Nat.le_of_ble_eq_true rfl) dL_law_384 (fun w1 h1 => ?_)
  obtain ⟨hC1, hf1⟩ := h1
  have hM1 := hM.frm hf1
  obtain ⟨fs1, hk1⟩ := hM1.ob
  refine wl_al2 A dL_law_387 ?_
  refine wl_arg A (k := 1) dL_law_388 dL_law_389 dL_law_390 dL_law_391 dL_law_392 (by decide) (by omega) ?_
  refine wl_cV A (as := [.int (xs (i + 1))]) (rest := [.int _]) hk1 rfl (m_cry g 83 w1 hM1 hB hBk _) kV_L_54 ⟨Nat.le_of_ble_eq_true rfl, Nat.le_of_ble_eq_true rfl⟩ ⟨rfl, rfl⟩ rfl rfl rfl rfl (Nat.le_of_ble_eq_true rfl) dL_law_393 (fun w2 h2 => ?_)
  obtain ⟨hM2, hf2⟩ := h2
  have hC2 := hC1.frm hf2
  exact wl_eq A dL_law_396 (by decide) (kk w2 ⟨_, _, _, _, _, _, _, hC2, hM2, hE⟩)
theorem lc_warn (A : LF g p s m meth c b L xs) (hi : i + 5 ≤ L) (hI : Iv w) (kk : ∀ w2, Iv w2 → WL g p e s m below meth c b w2 827 i []) : WL g p e s m below meth c b w 401 i [] := by
  obtain ⟨t, len, h, a, kn, k1, k2, hC, hM, hE⟩ := hI
  obtain ⟨hB, hBk, ht⟩ := hC.bd hE.1 hE.2.1 hE.2.2.1
  obtain ⟨fs0, hk0⟩ := hC.ob
  refine wl_al1 A dL_law_401 ?_
  refine wl_arg A (k := 1) dL_law_402 dL_law_403 dL_law_404 dL_law_405 dL_law_406 (by decide) (by omega) ?_
  refine wl_arg A (k := 2) dL_law_407 dL_law_408 dL_law_409 dL_law_410 dL_law_411 (by decide) (by omega) ?_
  refine wl_cV A (as := [.int (xs (i + 1)), .int (xs (i + 2))]) (rest := []) hk0 rfl (d_warn g 83 w hC _ _ hE.2.1) kV_L_55 ⟨Nat.le_of_ble_eq_true rfl, Nat.le_of_ble_eq_true rfl⟩ ⟨rfl, rfl⟩ rfl rfl rfl rfl (Nat.le_of_ble_eq_true rfl) dL_law_412 (fun w1 h1 => ?_)
  obtain ⟨hC1, hf1⟩ := h1
  have hM1 := hM.frm hf1
  obtain ⟨fs1, hk1⟩ := hM1.ob
  refine wl_al2 A dL_law_415 ?_
  refine wl_arg A (k := 1) dL_law_416 dL_law_417 dL_law_418 dL_law_419 dL_law_420 (by decide) (by omega) ?_
  refine wl_arg A (k := 2) dL_law_421 dL_law_422 dL_law_423 dL_law_424 dL_law_425 (by decide) (by omega) ?_
  refine wl_cV A (as := [.int (xs (i + 1)), .int (xs (i + 2))]) (rest := [.int _]) hk1 rfl (m_warn g 83 w1 hM1 hB hBk _ _) kV_L_58 ⟨Nat.le_of_ble_eq_true rfl, Nat.le_of_ble_eq_true rfl⟩ ⟨rfl, rfl⟩ rfl rfl rfl rfl (Nat.le_of_ble_eq_true rfl) dL_law_426 (fun w2 h2 => ?_)
  obtain ⟨hM2, hf2⟩ := h2
  have hC2 := hC1.frm hf2
  exact wl_eq A dL_law_429 (by decide) (kk w2 ⟨_, _, _, _, _, _, _, hC2, hM2, hE⟩)
theorem lc_called (A : LF g p s m meth c b L xs) (hi : i + 5 ≤ L) (hI : Iv w) (kk : ∀ w2, Iv w2 → WL g p e s m below meth c b w2 827 i []) : WL g p e s m below meth c b w 434 i [] := by
  obtain ⟨t, len, h, a, kn, k1, k2, hC, hM, hE⟩ := hI
  obtain ⟨hB, hBk, ht⟩ := hC.bd hE.1 hE.2.1 hE.2.2.1
  obtain ⟨fs0, hk0⟩ := hC.ob
  refine wl_al1 A dL_law_434 ?_
  refine wl_arg A (k := 1) dL_law_435 dL_law_436 dL_law_437 dL_law_438 dL_law_439 (by decide) (by omega) ?_
  refine wl_arg A (k := 2) dL_law_440 dL_law_441 dL_law_442 dL_law_443 dL_law_444 (by decide) (by omega) ?_
  refine wl_cV A (as := [.int (xs (i + 1)), .int (xs (i + 2))]) (rest := []) hk0 rfl (d_called g 83 w hC _ _ hE.2.1) kV_L_59 ⟨Nat.le_of_ble_eq_true rfl, Nat.le_of_ble_eq_true rfl⟩ ⟨rfl, rfl⟩ rfl rfl rfl rfl (Nat.le_of_ble_eq_true rfl) dL_law_445 (fun w1 h1 => ?_)
  obtain ⟨hC1, hf1⟩ := h1
  have hM1 := hM.frm hf1
  obtain ⟨fs1, hk1⟩ := hM1.ob
  refine wl_al2 A dL_law_448 ?_
  refine wl_arg A (k := 1) dL_law_449 dL_law_450 dL_law_451 dL_law_452 dL_law_453 (by decide) (by omega) ?_
  refine wl_arg A (k := 2) dL_law_454 dL_law_455 dL_law_456 dL_law_457 dL_law_458 (by decide) (by omega) ?_
  refine wl_cV A (as := [.int (xs (i + 1)), .int (xs (i + 2))]) (rest := [.int _]) hk1 rfl (m_called g 83 w1 hM1 hB hBk _ _) kV_L_62 ⟨Nat.le_of_ble_eq_true rfl, Nat.le_of_ble_eq_true rfl⟩ ⟨rfl, rfl⟩ rfl rfl rfl rfl (Nat.le_of_ble_eq_true rfl) dL_law_459 (fun w2 h2 => ?_)
  obtain ⟨hM2, hf2⟩ := h2
  have hC2 := hC1.frm hf2
  exact wl_eq A dL_law_462 (by decide) (kk w2 ⟨_, _, _, _, _, _, _, hC2, hM2, hE⟩)
theorem lc_greet (A : LF g p s m meth c b L xs) (hi : i + 5 ≤ L) (hI : Iv w) (kk : ∀ w2, Iv w2 → WL g p e s m below meth c b w2 827 i []) : WL g p e s m below meth c b w 467 i [] := by
  obtain ⟨t, len, h, a, kn, k1, k2, hC, hM, hE⟩ := hI
  obtain ⟨hB, hBk, ht⟩ := hC.bd hE.1 hE.2.1 hE.2.2.1
  obtain ⟨fs0, hk0⟩ := hC.ob
  refine wl_al1 A dL_law_467 ?_
  refine wl_arg A (k := 1) dL_law_468 dL_law_469 dL_law_470 dL_law_471 dL_law_472 (by decide) (by omega) ?_
  refine wl_arg A (k := 2) dL_law_473 dL_law_474 dL_law_475 dL_law_476 dL_law_477 (by decide) (by omega) ?_
  refine wl_cV A (as := [.int (xs (i + 1)), .int (xs (i + 2))]) (rest := []) hk0 rfl (d_greet g 83 w hC _ _ hE.2.1 hE.2.2.1) kV_L_63 ⟨Nat.le_of_ble_eq_true rfl, Nat.le_of_ble_eq_true rfl⟩ ⟨rfl, rfl⟩ rfl rfl rfl rfl (Nat.le_of_ble_eq_true rfl) dL_law_478 (fun w1 h1 => ?_)
  obtain ⟨hC1, hf1⟩ := h1
  have hM1 := hM.frm hf1
  obtain ⟨fs1, hk1⟩ := hM1.ob
  refine wl_al2 A dL_law_481 ?_
  refine wl_arg A (k := 1) dL_law_482 dL_law_483 dL_law_484 dL_law_485 dL_law_486 (by decide) (by omega) ?_
  refine wl_arg A (k := 2) dL_law_487 dL_law_488 dL_law_489 dL_law_490 dL_law_491 (by decide) (by omega) ?_
  refine wl_cV A (as := [.int (xs (i + 1)), .int (xs (i + 2))]) (rest := [.int _]) hk1 rfl (m_greet g 83 w1 hM1 hB hBk _ _) kV_L_66 ⟨Nat.le_of_ble_eq_true rfl, Nat.le_of_ble_eq_true rfl⟩ ⟨rfl, rfl⟩ rfl rfl rfl rfl (Nat.le_of_ble_eq_true rfl) dL_law_492 (fun w2 h2 => ?_)
  obtain ⟨hM2, hf2⟩ := h2
  have hC2 := hC1.frm hf2
  exact wl_eq A dL_law_495 (by decide) (kk w2 ⟨_, _, _, _, _, _, _, hC2, hM2, hE⟩)
theorem lc_shortCall (A : LF g p s m meth c b L xs) (hi : i + 5 ≤ L) (hI : Iv w) (kk : ∀ w2, Iv w2 → WL g p e s m below meth c b w2 827 i []) : WL g p e s m below meth c b w 500 i [] := by
  obtain ⟨t, len, h, a, kn, k1, k2, hC, hM, hE⟩ := hI
  obtain ⟨hB, hBk, ht⟩ := hC.bd hE.1 hE.2.1 hE.2.2.1
  obtain ⟨fs0, hk0⟩ := hC.ob
  refine wl_al1 A dL_law_500 ?_
  refine wl_arg A (k := 1) dL_law_501 dL_law_502 dL_law_503 dL_law_504 dL_law_505 (by decide) (by omega) ?_
  refine wl_arg A (k := 2) dL_law_506 dL_law_507 dL_law_508 dL_law_509 dL_law_510 (by decide) (by omega) ?_
  refine wl_cV A (as := [.int (xs (i + 1)), .int (xs (i + 2))]) (rest := []) hk0 rfl (d_shortCall g 83 w hC _ _) kV_L_67 ⟨Nat.le_of_ble_eq_true rfl, Nat.le_of_ble_eq_true rfl⟩ ⟨rfl, rfl⟩ rfl rfl rfl rfl (Nat.le_of_ble_eq_true rfl) dL_law_511 (fun w1 h1 => ?_)
  obtain ⟨hC1, hf1⟩ := h1
  have hM1 := hM.frm hf1
  obtain ⟨fs1, hk1⟩ := hM1.ob
  refine wl_al2 A dL_law_514 ?_
  refine wl_arg A (k := 1) dL_law_515 dL_law_516 dL_law_517 dL_law_518 dL_law_519 (by decide) (by omega) ?_
  refine wl_arg A (k := 2) dL_law_520 dL_law_521 dL_law_522 dL_law_523 dL_law_524 (by decide) (by omega) ?_
  refine wl_cV A (as := [.int (xs (i + 1)), .int (xs (i + 2))]) (rest := [.int _]) hk1 rfl (m_shortCall g 83 w1 hM1 hB hBk _ _) kV_L_70 ⟨Nat.le_of_ble_eq_true rfl, Nat.le_of_ble_eq_true rfl⟩ ⟨rfl, rfl⟩ rfl rfl rfl rfl (Nat.le_of_ble_eq_true rfl) dL_law_525 (fun w2 h2 => ?_)
  obtain ⟨hM2, hf2⟩ := h2
  have hC2 := hC1.frm hf2
  exact wl_eq A dL_law_528 (by decide) (kk w2 ⟨_, _, _, _, _, _, _, hC2, hM2, hE⟩)
theorem lc_allShort (A : LF g p s m meth c b L xs) (hi : i + 5 ≤ L) (hI : Iv w) (kk : ∀ w2, Iv w2 → WL g p e s m below meth c b w2 827 i []) : WL g p e s m below meth c b w 533 i [] := by
  obtain ⟨t, len, h, a, kn, k1, k2, hC, hM, hE⟩ := hI
  obtain ⟨hB, hBk, ht⟩ := hC.bd hE.1 hE.2.1 hE.2.2.1
  obtain ⟨fs0, hk0⟩ := hC.ob
  refine wl_al1 A dL_law_533 ?_
  refine wl_arg A (k := 1) dL_law_534 dL_law_535 dL_law_536 dL_law_537 dL_law_538 (by decide) (by omega) ?_
  refine wl_cV A (as := [.int (xs (i + 1))]) (rest := []) hk0 rfl (d_allShort g 83 w hC _) kV_L_71 ⟨Nat.le_of_ble_eq_true rfl, Nat.le_of_ble_eq_true rfl⟩ ⟨rfl, rfl⟩ rfl rfl rfl rfl (Nat.le_of_ble_eq_true rfl) dL_law_539 (fun w1 h1 => ?_)
  obtain ⟨hC1, hf1⟩ := h1
  have hM1 := hM.frm hf1
  obtain ⟨fs1, hk1⟩ := hM1.ob
  refine wl_al2 A dL_law_542 ?_
  refine wl_arg A (k := 1) dL_law_543 dL_law_544 dL_law_545 dL_law_546 dL_law_547 (by decide) (by omega) ?_
  refine wl_cV A (as := [.int (xs (i + 1))]) (rest := [.int _]) hk1 rfl (m_allShort g 83 w1 hM1 hB hBk _) kV_L_74 ⟨Nat.le_of_ble_eq_true rfl, Nat.le_of_ble_eq_true rfl⟩ ⟨rfl, rfl⟩ rfl rfl rfl rfl (Nat.le_of_ble_eq_true rfl) dL_law_548 (fun w2 h2 => ?_)
  obtain ⟨hM2, hf2⟩ := h2
  have hC2 := hC1.frm hf2
  exact wl_eq A dL_law_551 (by decide) (kk w2 ⟨_, _, _, _, _, _, _, hC2, hM2, hE⟩)
theorem lc_apart (A : LF g p s m meth c b L xs) (hi : i + 5 ≤ L) (hI : Iv w) (kk : ∀ w2, Iv w2 → WL g p e s m below meth c b w2 827 i []) : WL g p e s m below meth c b w 556 i [] := by
  obtain ⟨t, len, h, a, kn, k1, k2, hC, hM, hE⟩ := hI
  obtain ⟨hB, hBk, ht⟩ := hC.bd hE.1 hE.2.1 hE.2.2.1
  obtain ⟨fs0, hk0⟩ := hC.ob
  refine wl_al1 A dL_law_556 ?_
  refine wl_arg A (k := 1) dL_law_557 dL_law_558 dL_law_559 dL_law_560 dL_law_561 (by decide) (by omega) ?_
  refine wl_arg A (k := 2) dL_law_562 dL_law_563 dL_law_564 dL_law_565 dL_law_566 (by decide) (by omega) ?_
  refine wl_arg A (k := 3) dL_law_567 dL_law_568 dL_law_569 dL_law_570 dL_law_571 (by decide) (by omega) ?_
  refine wl_cV A (as := [.int (xs (i + 1)), .int (xs (i + 2)), .int (xs (i + 3))]) (rest := []) hk0 rfl (d_apart g 83 w hC _ _ _ hE.2.2.1) kV_L_75 ⟨Nat.le_of_ble_eq_true rfl, Nat.le_of_ble_eq_true rfl⟩ ⟨rfl, rfl⟩ rfl rfl rfl rfl (Nat.le_of_ble_eq_true rfl) dL_law_572 (fun w1 h1 => ?_)
  obtain ⟨hC1, hf1⟩ := h1
  have hM1 := hM.frm hf1
  obtain ⟨fs1, hk1⟩ := hM1.ob
  refine wl_al2 A dL_law_575 ?_
  refine wl_arg A (k := 1) dL_law_576 dL_law_577 dL_law_578 dL_law_579 dL_law_580 (by decide) (by omega) ?_
  refine wl_arg A (k := 2) dL_law_581 dL_law_582 dL_law_583 dL_law_584 dL_law_585 (by decide) (by omega) ?_
  refine wl_arg A (k := 3) dL_law_586 dL_law_587 dL_law_588 dL_law_589 dL_law_590 (by decide) (by omega) ?_
  refine wl_cV A (as := [.int (xs (i + 1)), .int (xs (i + 2)), .int (xs (i + 3))]) (rest := [.int _]) hk1 rfl (m_apart g 83 w1 hM1 hB hBk _ _ _) kV_L_79 ⟨Nat.le_of_ble_eq_true rfl, Nat.le_of_ble_eq_true rfl⟩ ⟨rfl, rfl⟩ rfl rfl rfl rfl (Nat.le_of_ble_eq_true rfl) dL_law_591 (fun w2 h2 => ?_)
  obtain ⟨hM2, hf2⟩ := h2
  have hC2 := hC1.frm hf2
  exact wl_eq A dL_law_594 (by decide) (kk w2 ⟨_, _, _, _, _, _, _, hC2, hM2, hE⟩)
theorem lc_hear (A : LF g p s m meth c b L xs) (hi : i + 5 ≤ L) (hI : Iv w) (kk : ∀ w2, Iv w2 → WL g p e s m below meth c b w2 827 i []) : WL g p e s m below meth c b w 599 i [] := by
  obtain ⟨t, len, h, a, kn, k1, k2, hC, hM, hE⟩ := hI
  obtain ⟨hB, hBk, ht⟩ := hC.bd hE.1 hE.2.1 hE.2.2.1
  obtain ⟨fs0, hk0⟩ := hC.ob
  refine wl_al1 A dL_law_599 ?_
  refine wl_arg A (k := 1) dL_law_600 dL_law_601 dL_law_602 dL_law_603 dL_law_604 (by decide) (by omega) ?_
  refine wl_cV A (as := [.int (xs (i + 1))]) (rest := []) hk0 rfl (d_hear g 83 w hC _) kV_L_80 ⟨Nat.le_of_ble_eq_true rfl, Nat.le_of_ble_eq_true rfl⟩ ⟨rfl, rfl⟩ rfl rfl rfl rfl (Nat.le_of_ble_eq_true rfl) dL_law_605 (fun w1 h1 => ?_)
  obtain ⟨hC1, hf1⟩ := h1
  have hM1 := hM.frm hf1
  obtain ⟨fs1, hk1⟩ := hM1.ob
  refine wl_al2 A dL_law_608 ?_
  refine wl_arg A (k := 1) dL_law_609 dL_law_610 dL_law_611 dL_law_612 dL_law_613 (by decide) (by omega) ?_
  refine wl_cV A (as := [.int (xs (i + 1))]) (rest := [.int _]) hk1 rfl (m_hear g 83 w1 hM1 hB hBk _) kV_L_83 ⟨Nat.le_of_ble_eq_true rfl, Nat.le_of_ble_eq_true rfl⟩ ⟨rfl, rfl⟩ rfl rfl rfl rfl (Nat.le_of_ble_eq_true rfl) dL_law_614 (fun w2 h2 => ?_)
  obtain ⟨hM2, hf2⟩ := h2
  have hC2 := hC1.frm hf2
  exact wl_eq A dL_law_617 (by decide) (kk w2 ⟨_, _, _, _, _, _, _, hC2, hM2, hE.hear _⟩)
theorem lc_forget (A : LF g p s m meth c b L xs) (hi : i + 5 ≤ L) (hI : Iv w) (kk : ∀ w2, Iv w2 → WL g p e s m below meth c b w2 827 i []) : WL g p e s m below meth c b w 622 i [] := by
  obtain ⟨t, len, h, a, kn, k1, k2, hC, hM, hE⟩ := hI
  obtain ⟨hB, hBk, ht⟩ := hC.bd hE.1 hE.2.1 hE.2.2.1
  obtain ⟨fs0, hk0⟩ := hC.ob
  refine wl_al1 A dL_law_622 ?_
  refine wl_cV A (as := []) (rest := []) hk0 rfl (d_forget g 83 w hC) kV_L_84 ⟨Nat.le_of_ble_eq_true rfl, Nat.le_of_ble_eq_true rfl⟩ ⟨rfl, rfl⟩ rfl rfl rfl rfl (Nat.le_of_ble_eq_true rfl) dL_law_623 (fun w1 h1 => ?_)
  obtain ⟨hC1, hf1⟩ := h1
  have hM1 := hM.frm hf1
  obtain ⟨fs1, hk1⟩ := hM1.ob
  refine wl_al2 A dL_law_626 ?_
  refine wl_cV A (as := []) (rest := [.int _]) hk1 rfl (m_forget g 83 w1 hM1 hB hBk) kV_L_87 ⟨Nat.le_of_ble_eq_true rfl, Nat.le_of_ble_eq_true rfl⟩ ⟨rfl, rfl⟩ rfl rfl rfl rfl (Nat.le_of_ble_eq_true rfl) dL_law_627 (fun w2 h2 => ?_)
  obtain ⟨hM2, hf2⟩ := h2
  have hC2 := hC1.frm hf2
  exact wl_eq A dL_law_630 (by decide) (kk w2 ⟨_, _, _, _, _, _, _, hC2, hM2, hE.now hE.2.2.1⟩)
theorem lc_odds (A : LF g p s m meth c b L xs) (hi : i + 5 ≤ L) (hI : Iv w) (kk : ∀ w2, Iv w2 → WL g p e s m below meth c b w2 827 i []) : WL g p e s m below meth c b w 635 i [] := by
  obtain ⟨t, len, h, a, kn, k1, k2, hC, hM, hE⟩ := hI
  obtain ⟨hB, hBk, ht⟩ := hC.bd hE.1 hE.2.1 hE.2.2.1
  obtain ⟨fs0, hk0⟩ := hC.ob
  refine wl_al1 A dL_law_635 ?_
  refine wl_arg A (k := 1) dL_law_636 dL_law_637 dL_law_638 dL_law_639 dL_law_640 (by decide) (by omega) ?_
  refine wl_arg A (k := 2) dL_law_641 dL_law_642 dL_law_643 dL_law_644 dL_law_645 (by decide) (by omega) ?_
  refine wl_cV A (as := [.int (xs (i + 1)), .int (xs (i + 2))]) (rest := []) hk0 rfl (d_odds g 83 w hC _ _) kV_L_88 ⟨Nat.le_of_ble_eq_true rfl, Nat.le_of_ble_eq_true rfl⟩ ⟨rfl, rfl⟩ rfl rfl rfl rfl (Nat.le_of_ble_eq_true rfl) dL_law_646 (fun w1 h1 => ?_)
  obtain ⟨hC1, hf1⟩ := h1
  have hM1 := hM.frm hf1
  obtain ⟨fs1, hk1⟩ := hM1.ob
  refine wl_al2 A dL_law_649 ?_
  refine wl_arg A (k := 1) dL_law_650 dL_law_651 dL_law_652 dL_law_653 dL_law_654 (by decide) (by omega) ?_
  refine wl_arg A (k := 2) dL_law_655 dL_law_656 dL_law_657 dL_law_658 dL_law_659 (by decide) (by omega) ?_
  refine wl_cV A (as := [.int (xs (i + 1)), .int (xs (i + 2))]) (rest := [.long _]) hk1 rfl (m_odds g 83 w1 hM1 hB hBk _ _) kV_L_92 ⟨Nat.le_of_ble_eq_true rfl, Nat.le_of_ble_eq_true rfl⟩ ⟨rfl, rfl⟩ rfl rfl rfl rfl (Nat.le_of_ble_eq_true rfl) dL_law_660 (fun w2 h2 => ?_)
  obtain ⟨hM2, hf2⟩ := h2
  have hC2 := hC1.frm hf2
  exact wl_eql A dL_law_663 dL_law_664 (by decide) (kk w2 ⟨_, _, _, _, _, _, _, hC2, hM2, hE⟩)
theorem lc_meant (A : LF g p s m meth c b L xs) (hi : i + 5 ≤ L) (hI : Iv w) (kk : ∀ w2, Iv w2 → WL g p e s m below meth c b w2 827 i []) : WL g p e s m below meth c b w 669 i [] := by
  obtain ⟨t, len, h, a, kn, k1, k2, hC, hM, hE⟩ := hI
  obtain ⟨hB, hBk, ht⟩ := hC.bd hE.1 hE.2.1 hE.2.2.1
  obtain ⟨fs0, hk0⟩ := hC.ob
  refine wl_al1 A dL_law_669 ?_
  refine wl_cV A (as := []) (rest := []) hk0 rfl (d_meant g 83 w hC) kV_L_93 ⟨Nat.le_of_ble_eq_true rfl, Nat.le_of_ble_eq_true rfl⟩ ⟨rfl, rfl⟩ rfl rfl rfl rfl (Nat.le_of_ble_eq_true rfl) dL_law_670 (fun w1 h1 => ?_)
  obtain ⟨hC1, hf1⟩ := h1
  have hM1 := hM.frm hf1
  obtain ⟨fs1, hk1⟩ := hM1.ob
  refine wl_al2 A dL_law_673 ?_
  refine wl_cV A (as := []) (rest := [.int _]) hk1 rfl (m_meant g 83 w1 hM1 hB hBk) kV_L_96 ⟨Nat.le_of_ble_eq_true rfl, Nat.le_of_ble_eq_true rfl⟩ ⟨rfl, rfl⟩ rfl rfl rfl rfl (Nat.le_of_ble_eq_true rfl) dL_law_674 (fun w2 h2 => ?_)
  obtain ⟨hM2, hf2⟩ := h2
  have hC2 := hC1.frm hf2
  exact wl_eq A dL_law_677 (by decide) (kk w2 ⟨_, _, _, _, _, _, _, hC2, hM2, hE⟩)
theorem lc_years (A : LF g p s m meth c b L xs) (hi : i + 5 ≤ L) (hI : Iv w) (kk : ∀ w2, Iv w2 → WL g p e s m below meth c b w2 827 i []) : WL g p e s m below meth c b w 682 i [] := by
  obtain ⟨t, len, h, a, kn, k1, k2, hC, hM, hE⟩ := hI
  obtain ⟨hB, hBk, ht⟩ := hC.bd hE.1 hE.2.1 hE.2.2.1
  obtain ⟨fs0, hk0⟩ := hC.ob
  refine wl_al1 A dL_law_682 ?_
  refine wl_arg A (k := 1) dL_law_683 dL_law_684 dL_law_685 dL_law_686 dL_law_687 (by decide) (by omega) ?_
  refine wl_arg A (k := 2) dL_law_688 dL_law_689 dL_law_690 dL_law_691 dL_law_692 (by decide) (by omega) ?_
  refine wl_arg A (k := 3) dL_law_693 dL_law_694 dL_law_695 dL_law_696 dL_law_697 (by decide) (by omega) ?_
  refine wl_cV A (as := [.int (xs (i + 1)), .int (xs (i + 2)), .int (xs (i + 3))]) (rest := []) hk0 rfl (d_years g 83 w hC _ _ _ hE.2.1) kV_L_97 ⟨Nat.le_of_ble_eq_true rfl, Nat.le_of_ble_eq_true rfl⟩ ⟨rfl, rfl⟩ rfl rfl rfl rfl (Nat.le_of_ble_eq_true rfl) dL_law_698 (fun w1 h1 => ?_)
  obtain ⟨hC1, hf1⟩ := h1
  have hM1 := hM.frm hf1
  obtain ⟨fs1, hk1⟩ := hM1.ob
  refine wl_al2 A dL_law_701 ?_
  refine wl_arg A (k := 1) dL_law_702 dL_law_703 dL_law_704 dL_law_705 dL_law_706 (by decide) (by omega) ?_
  refine wl_arg A (k := 2) dL_law_707 dL_law_708 dL_law_709 dL_law_710 dL_law_711 (by decide) (by omega) ?_
  refine wl_arg A (k := 3) dL_law_712 dL_law_713 dL_law_714 dL_law_715 dL_law_716 (by decide) (by omega) ?_
  refine wl_cV A (as := [.int (xs (i + 1)), .int (xs (i + 2)), .int (xs (i + 3))]) (rest := [.int _]) hk1 rfl (m_years g 83 w1 hM1 hB hBk _ _ _) kV_L_100 ⟨Nat.le_of_ble_eq_true rfl, Nat.le_of_ble_eq_true rfl⟩ ⟨rfl, rfl⟩ rfl rfl rfl rfl (Nat.le_of_ble_eq_true rfl) dL_law_717 (fun w2 h2 => ?_)
  obtain ⟨hM2, hf2⟩ := h2
  have hC2 := hC1.frm hf2
  exact wl_eq A dL_law_720 (by decide) (kk w2 ⟨_, _, _, _, _, _, _, hC2, hM2, hE⟩)
theorem lc_then (A : LF g p s m meth c b L xs) (hi : i + 5 ≤ L) (hI : Iv w) (kk : ∀ w2, Iv w2 → WL g p e s m below meth c b w2 827 i []) : WL g p e s m below meth c b w 725 i [] := by
  obtain ⟨t, len, h, a, kn, k1, k2, hC, hM, hE⟩ := hI
  obtain ⟨hB, hBk, ht⟩ := hC.bd hE.1 hE.2.1 hE.2.2.1
  obtain ⟨fs0, hk0⟩ := hC.ob
  refine wl_al1 A dL_law_725 ?_
  refine wl_arg A (k := 1) dL_law_726 dL_law_727 dL_law_728 dL_law_729 dL_law_730 (by decide) (by omega) ?_
  refine wl_arg A (k := 2) dL_law_731 dL_law_732 dL_law_733 dL_law_734 dL_law_735 (by decide) (by omega) ?_
  refine wl_arg A (k := 3) dL_law_736 dL_law_737 dL_law_738 dL_law_739 dL_law_740 (by decide) (by omega) ?_
  refine wl_arg A (k := 4) dL_law_741 dL_law_742 dL_law_743 dL_law_744 dL_law_745 (by decide) (by omega) ?_
  refine wl_cV A (as := [.int (xs (i + 1)), .int (xs (i + 2)), .int (xs (i + 3)), .int (xs (i + 4))]) (rest := []) hk0 rfl (d_then g 83 w hC _ _ _ _) kV_L_101 ⟨Nat.le_of_ble_eq_true rfl, Nat.le_of_ble_eq_true rfl⟩ ⟨rfl, rfl⟩ rfl rfl rfl rfl (Nat.le_of_ble_eq_true rfl) dL_law_746 (fun w1 h1 => ?_)
  obtain ⟨hC1, hf1⟩ := h1
  have hM1 := hM.frm hf1
  obtain ⟨fs1, hk1⟩ := hM1.ob
  refine wl_al2 A dL_law_749 ?_
  refine wl_arg A (k := 1) dL_law_750 dL_law_751 dL_law_752 dL_law_753 dL_law_754 (by decide) (by omega) ?_
  refine wl_arg A (k := 2) dL_law_755 dL_law_756 dL_law_757 dL_law_758 dL_law_759 (by decide) (by omega) ?_
  refine wl_arg A (k := 3) dL_law_760 dL_law_761 dL_law_762 dL_law_763 dL_law_764 (by decide) (by omega) ?_
  refine wl_arg A (k := 4) dL_law_765 dL_law_766 dL_law_767 dL_law_768 dL_law_769 (by decide) (by omega) ?_
  refine wl_cV A (as := [.int (xs (i + 1)), .int (xs (i + 2)), .int (xs (i + 3)), .int (xs (i + 4))]) (rest := [.int _]) hk1 rfl (m_then g 83 w1 hM1 hB hBk _ _ _ _) kV_L_105 ⟨Nat.le_of_ble_eq_true rfl, Nat.le_of_ble_eq_true rfl⟩ ⟨rfl, rfl⟩ rfl rfl rfl rfl (Nat.le_of_ble_eq_true rfl) dL_law_770 (fun w2 h2 => ?_)
  obtain ⟨hM2, hf2⟩ := h2
  have hC2 := hC1.frm hf2
  exact wl_eq A dL_law_773 (by decide) (kk w2 ⟨_, _, _, _, _, _, _, hC2, hM2, hE⟩)
theorem lc_keep (A : LF g p s m meth c b L xs) (hi : i + 5 ≤ L) (hI : Iv w) (kk : ∀ w2, Iv w2 → WL g p e s m below meth c b w2 827 i []) : WL g p e s m below meth c b w 778 i [] := by
  obtain ⟨t, len, h, a, kn, k1, k2, hC, hM, hE⟩ := hI
  obtain ⟨hB, hBk, ht⟩ := hC.bd hE.1 hE.2.1 hE.2.2.1
  obtain ⟨fs0, hk0⟩ := hC.ob
  refine wl_al1 A dL_law_778 ?_
  refine wl_cV A (as := []) (rest := []) hk0 rfl (d_keep g 83 w hC) kV_L_106 ⟨Nat.le_of_ble_eq_true rfl, Nat.le_of_ble_eq_true rfl⟩ ⟨rfl, rfl⟩ rfl rfl rfl rfl (Nat.le_of_ble_eq_true rfl) dL_law_779 (fun w1 h1 => ?_)
  obtain ⟨hC1, hf1⟩ := h1
  have hM1 := hM.frm hf1
  obtain ⟨fs1, hk1⟩ := hM1.ob
  refine wl_al2 A dL_law_782 ?_
  refine wl_cV A (as := []) (rest := [.int _]) hk1 rfl (m_keep g 83 w1 hM1 hB hBk) kV_L_109 ⟨Nat.le_of_ble_eq_true rfl, Nat.le_of_ble_eq_true rfl⟩ ⟨rfl, rfl⟩ rfl rfl rfl rfl (Nat.le_of_ble_eq_true rfl) dL_law_783 (fun w2 h2 => ?_)
  obtain ⟨hM2, hf2⟩ := h2
  have hC2 := hC1.frm hf2
  exact wl_eq A dL_law_786 (by decide) (kk w2 ⟨_, _, _, _, _, _, _, hC2, hM2, hE.keep⟩)
theorem lc_back (A : LF g p s m meth c b L xs) (hi : i + 5 ≤ L) (hI : Iv w) (kk : ∀ w2, Iv w2 → WL g p e s m below meth c b w2 827 i []) : WL g p e s m below meth c b w 791 i [] := by
  obtain ⟨t, len, h, a, kn, k1, k2, hC, hM, hE⟩ := hI
  obtain ⟨hB, hBk, ht⟩ := hC.bd hE.1 hE.2.1 hE.2.2.1
  obtain ⟨fs0, hk0⟩ := hC.ob
  have hkn2 : kn ≤ 2 := by
    obtain ⟨A9, pl9, hMO, hR9⟩ := id hM
    exact hR9.2.1
  refine wl_al1 A dL_law_791 ?_
  refine wl_cV A (as := []) (rest := []) hk0 rfl (d_back g 83 w hC) kV_L_110 ⟨Nat.le_of_ble_eq_true rfl, Nat.le_of_ble_eq_true rfl⟩ ⟨rfl, rfl⟩ rfl rfl rfl rfl (Nat.le_of_ble_eq_true rfl) dL_law_792 (fun w1 h1 => ?_)
  obtain ⟨hC1, hf1⟩ := h1
  have hM1 := hM.frm hf1
  obtain ⟨fs1, hk1⟩ := hM1.ob
  refine wl_al2 A dL_law_795 ?_
  refine wl_cV A (as := []) (rest := [.int _]) hk1 rfl (m_back g 83 w1 hM1 hB hBk) kV_L_113 ⟨Nat.le_of_ble_eq_true rfl, Nat.le_of_ble_eq_true rfl⟩ ⟨rfl, rfl⟩ rfl rfl rfl rfl (Nat.le_of_ble_eq_true rfl) dL_law_796 (fun w2 h2 => ?_)
  obtain ⟨hM2, hf2⟩ := h2
  have hC2 := hC1.frm hf2
  exact wl_eq A dL_law_799 (by decide) (kk w2 ⟨_, _, _, _, _, _, _, hC2, hM2, hE.back hkn2⟩)
theorem lc_count (A : LF g p s m meth c b L xs) (hi : i + 5 ≤ L) (hI : Iv w) (kk : ∀ w2, Iv w2 → WL g p e s m below meth c b w2 827 i []) : WL g p e s m below meth c b w 804 i [] := by
  obtain ⟨t, len, h, a, kn, k1, k2, hC, hM, hE⟩ := hI
  obtain ⟨hB, hBk, ht⟩ := hC.bd hE.1 hE.2.1 hE.2.2.1
  obtain ⟨fs0, hk0⟩ := hC.ob
  refine wl_al1 A dL_law_804 ?_
  refine wl_arg A (k := 1) dL_law_805 dL_law_806 dL_law_807 dL_law_808 dL_law_809 (by decide) (by omega) ?_
  refine wl_cV A (as := [.int (xs (i + 1))]) (rest := []) hk0 rfl (d_count g 83 w hC _) kV_L_114 ⟨Nat.le_of_ble_eq_true rfl, Nat.le_of_ble_eq_true rfl⟩ ⟨rfl, rfl⟩ rfl rfl rfl rfl (Nat.le_of_ble_eq_true rfl) dL_law_810 (fun w1 h1 => ?_)
  obtain ⟨hC1, hf1⟩ := h1
  have hM1 := hM.frm hf1
  obtain ⟨fs1, hk1⟩ := hM1.ob
  refine wl_al2 A dL_law_813 ?_
  refine wl_arg A (k := 1) dL_law_814 dL_law_815 dL_law_816 dL_law_817 dL_law_818 (by decide) (by omega) ?_
  refine wl_cV A (as := [.int (xs (i + 1))]) (rest := [.int _]) hk1 rfl (m_count g 83 w1 hM1 hB hBk _) kV_L_117 ⟨Nat.le_of_ble_eq_true rfl, Nat.le_of_ble_eq_true rfl⟩ ⟨rfl, rfl⟩ rfl rfl rfl rfl (Nat.le_of_ble_eq_true rfl) dL_law_819 (fun w2 h2 => ?_)
  obtain ⟨hM2, hf2⟩ := h2
  have hC2 := hC1.frm hf2
  exact wl_eq A dL_law_822 (by decide) (kk w2 ⟨_, _, _, _, _, _, _, hC2, hM2, hE⟩)
end CASES
