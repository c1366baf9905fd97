/-! the law: its cases, its switch, its loop -/
section LAW
variable {κ : bg_K} {y : bg_Y} {c1 c2 : Nat} {a : Array Slot} {b L : Nat} {xs : Nat → Int32}
theorem bl_case_0 (C : bl_C κ y b L xs) {i : Nat} (hl : bl_L y b i a) (hi : i + 4 < L) {g : bg_E} {Z : bm_X} (hX : clsR g Z) (hM : modR g Z) (ok : okX Z) (h1 : c1 ≤ 600000) (h2 : c2 ≤ 7302250) (kk : ∀ (g1 : bg_E) (Z1 : bm_X), clsR g1 Z1 → modR g1 Z1 → okX Z1 → bl_H κ y (c1, c2) 1060 a [] (bg_O g1)) : bl_H κ y (c1, c2) 152 a [] (bg_O g) := by
  refine bl_x (pc := 152) C hl dL_law_152 ?_
  refine bl_arg (pc := 153) (k := 1) C hl dL_law_153 dL_law_154 dL_law_155 dL_law_156 dL_law_157 (by omega) ?_
  refine bl_arg (pc := 158) (k := 2) C hl dL_law_158 dL_law_159 dL_law_160 dL_law_161 dL_law_162 (by omega) ?_
  refine bl_call (pc := 163) (a0 := 0) (As := [.inl (xs (i + 1)).toInt, .inl (xs (i + 2)).toInt]) (st := []) C hl (c_X6_setNumber hX) vX6_setNumber lL_13 rfl (rfl : bg_kd 0 = some (6, 9)) (by decide) dL_law_163 ⟨bg_R_toInt _, bg_R_toInt _, trivial⟩ (Nat.le_of_ble_eq_true rfl) rfl h1 h2 ?_
  rintro r1 g1 ⟨e1, X1, F1⟩
  refine bl_m (pc := 166) C hl dL_law_166 ?_
  refine bl_arg (pc := 167) (k := 1) C hl dL_law_167 dL_law_168 dL_law_169 dL_law_170 dL_law_171 (by omega) ?_
  refine bl_arg (pc := 172) (k := 2) C hl dL_law_172 dL_law_173 dL_law_174 dL_law_175 dL_law_176 (by omega) ?_
  refine bl_call (pc := 177) (a0 := 198) (As := [.inl (xs (i + 1)).toInt, .inl (xs (i + 2)).toInt]) (st := [.int (Int32.ofInt r1)]) C hl (c_X7_setNumber (hM.out F1) ok) vX7_setNumber lL_17 rfl (rfl : bg_kd 198 = some (7, 23)) (by decide) dL_law_177 ⟨bg_R_toInt _, bg_R_toInt _, trivial⟩ (Nat.le_of_ble_eq_true rfl) rfl h1 h2 ?_
  rintro r2 g2 ⟨e2, M2, F2⟩
  refine bl_same (pc := 180) C (by rw [e1, e2]) dL_law_180 (by decide) ?_
  exact kk g2 _ (X1.mo F2) M2 (ok_setNumber ok)
theorem bl_case_1 (C : bl_C κ y b L xs) {i : Nat} (hl : bl_L y b i a) (hi : i + 4 < L) {g : bg_E} {Z : bm_X} (hX : clsR g Z) (hM : modR g Z) (ok : okX Z) (h1 : c1 ≤ 600000) (h2 : c2 ≤ 7302250) (kk : ∀ (g1 : bg_E) (Z1 : bm_X), clsR g1 Z1 → modR g1 Z1 → okX Z1 → bl_H κ y (c1, c2) 1060 a [] (bg_O g1)) : bl_H κ y (c1, c2) 185 a [] (bg_O g) := by
  refine bl_x (pc := 185) C hl dL_law_185 ?_
  refine bl_arg (pc := 186) (k := 1) C hl dL_law_186 dL_law_187 dL_law_188 dL_law_189 dL_law_190 (by omega) ?_
  refine bl_arg (pc := 191) (k := 2) C hl dL_law_191 dL_law_192 dL_law_193 dL_law_194 dL_law_195 (by omega) ?_
  refine bl_call (pc := 196) (a0 := 0) (As := [.inl (xs (i + 1)).toInt, .inl (xs (i + 2)).toInt]) (st := []) C hl (c_X6_setKey hX ok) vX6_setKey lL_18 rfl (rfl : bg_kd 0 = some (6, 9)) (by decide) dL_law_196 ⟨bg_R_toInt _, bg_R_toInt _, trivial⟩ (Nat.le_of_ble_eq_true rfl) rfl h1 h2 ?_
  rintro r1 g1 ⟨e1, X1, F1⟩
  refine bl_m (pc := 199) C hl dL_law_199 ?_
  refine bl_arg (pc := 200) (k := 1) C hl dL_law_200 dL_law_201 dL_law_202 dL_law_203 dL_law_204 (by omega) ?_
  refine bl_arg (pc := 205) (k := 2) C hl dL_law_205 dL_law_206 dL_law_207 dL_law_208 dL_law_209 (by omega) ?_
  refine bl_call (pc := 210) (a0 := 198) (As := [.inl (xs (i + 1)).toInt, .inl (xs (i + 2)).toInt]) (st := [.int (Int32.ofInt r1)]) C hl (c_X7_setKey (hM.out F1) ok) vX7_setKey lL_21 rfl (rfl : bg_kd 198 = some (7, 23)) (by decide) dL_law_210 ⟨bg_R_toInt _, bg_R_toInt _, trivial⟩ (Nat.le_of_ble_eq_true rfl) rfl h1 h2 ?_
  rintro r2 g2 ⟨e2, M2, F2⟩
  refine bl_same (pc := 213) C (by rw [e1, e2]) dL_law_213 (by decide) ?_
  exact kk g2 _ (X1.mo F2) M2 (ok_setKey ok)
theorem bl_case_2 (C : bl_C κ y b L xs) {i : Nat} (hl : bl_L y b i a) (hi : i + 4 < L) {g : bg_E} {Z : bm_X} (hX : clsR g Z) (hM : modR g Z) (ok : okX Z) (h1 : c1 ≤ 600000) (h2 : c2 ≤ 7302250) (kk : ∀ (g1 : bg_E) (Z1 : bm_X), clsR g1 Z1 → modR g1 Z1 → okX Z1 → bl_H κ y (c1, c2) 1060 a [] (bg_O g1)) : bl_H κ y (c1, c2) 218 a [] (bg_O g) := by
  refine bl_x (pc := 218) C hl dL_law_218 ?_
  refine bl_arg (pc := 219) (k := 1) C hl dL_law_219 dL_law_220 dL_law_221 dL_law_222 dL_law_223 (by omega) ?_
  refine bl_arg (pc := 224) (k := 2) C hl dL_law_224 dL_law_225 dL_law_226 dL_law_227 dL_law_228 (by omega) ?_
  refine bl_call (pc := 229) (a0 := 0) (As := [.inl (xs (i + 1)).toInt, .inl (xs (i + 2)).toInt]) (st := []) C hl (c_X6_setCollar hX) vX6_setCollar lL_22 rfl (rfl : bg_kd 0 = some (6, 9)) (by decide) dL_law_229 ⟨bg_R_toInt _, bg_R_toInt _, trivial⟩ (Nat.le_of_ble_eq_true rfl) rfl h1 h2 ?_
  rintro r1 g1 ⟨e1, X1, F1⟩
  refine bl_m (pc := 232) C hl dL_law_232 ?_
  refine bl_arg (pc := 233) (k := 1) C hl dL_law_233 dL_law_234 dL_law_235 dL_law_236 dL_law_237 (by omega) ?_
  refine bl_arg (pc := 238) (k := 2) C hl dL_law_238 dL_law_239 dL_law_240 dL_law_241 dL_law_242 (by omega) ?_
  refine bl_call (pc := 243) (a0 := 198) (As := [.inl (xs (i + 1)).toInt, .inl (xs (i + 2)).toInt]) (st := [.int (Int32.ofInt r1)]) C hl (c_X7_setCollar (hM.out F1) ok) vX7_setCollar lL_25 rfl (rfl : bg_kd 198 = some (7, 23)) (by decide) dL_law_243 ⟨bg_R_toInt _, bg_R_toInt _, trivial⟩ (Nat.le_of_ble_eq_true rfl) rfl h1 h2 ?_
  rintro r2 g2 ⟨e2, M2, F2⟩
  refine bl_same (pc := 246) C (by rw [e1, e2]) dL_law_246 (by decide) ?_
  exact kk g2 _ (X1.mo F2) M2 (ok_setCollar ok)
theorem bl_case_3 (C : bl_C κ y b L xs) {i : Nat} (hl : bl_L y b i a) (hi : i + 4 < L) {g : bg_E} {Z : bm_X} (hX : clsR g Z) (hM : modR g Z) (ok : okX Z) (h1 : c1 ≤ 600000) (h2 : c2 ≤ 7302250) (kk : ∀ (g1 : bg_E) (Z1 : bm_X), clsR g1 Z1 → modR g1 Z1 → okX Z1 → bl_H κ y (c1, c2) 1060 a [] (bg_O g1)) : bl_H κ y (c1, c2) 251 a [] (bg_O g) := by
  refine bl_x (pc := 251) C hl dL_law_251 ?_
  refine bl_arg (pc := 252) (k := 1) C hl dL_law_252 dL_law_253 dL_law_254 dL_law_255 dL_law_256 (by omega) ?_
  refine bl_arg (pc := 257) (k := 2) C hl dL_law_257 dL_law_258 dL_law_259 dL_law_260 dL_law_261 (by omega) ?_
  refine bl_arg (pc := 262) (k := 3) C hl dL_law_262 dL_law_263 dL_law_264 dL_law_265 dL_law_266 (by omega) ?_
  refine bl_arg (pc := 267) (k := 4) C hl dL_law_267 dL_law_268 dL_law_269 dL_law_270 dL_law_271 (by omega) ?_
  refine bl_call (pc := 272) (a0 := 0) (As := [.inl (xs (i + 1)).toInt, .inl (xs (i + 2)).toInt, .inl (xs (i + 3)).toInt, .inl (xs (i + 4)).toInt]) (st := []) C hl (c_X6_addBed hX) vX6_addBed lL_26 rfl (rfl : bg_kd 0 = some (6, 9)) (by decide) dL_law_272 ⟨bg_R_toInt _, bg_R_toInt _, bg_R_toInt _, bg_R_toInt _, trivial⟩ (Nat.le_of_ble_eq_true rfl) rfl h1 h2 ?_
  rintro r1 g1 ⟨e1, X1, F1⟩
  refine bl_m (pc := 275) C hl dL_law_275 ?_
  refine bl_arg (pc := 276) (k := 1) C hl dL_law_276 dL_law_277 dL_law_278 dL_law_279 dL_law_280 (by omega) ?_
  refine bl_arg (pc := 281) (k := 2) C hl dL_law_281 dL_law_282 dL_law_283 dL_law_284 dL_law_285 (by omega) ?_
  refine bl_arg (pc := 286) (k := 3) C hl dL_law_286 dL_law_287 dL_law_288 dL_law_289 dL_law_290 (by omega) ?_
  refine bl_arg (pc := 291) (k := 4) C hl dL_law_291 dL_law_292 dL_law_293 dL_law_294 dL_law_295 (by omega) ?_
  refine bl_call (pc := 296) (a0 := 198) (As := [.inl (xs (i + 1)).toInt, .inl (xs (i + 2)).toInt, .inl (xs (i + 3)).toInt, .inl (xs (i + 4)).toInt]) (st := [.int (Int32.ofInt r1)]) C hl (c_X7_addBed (hM.out F1) ok) vX7_addBed lL_30 rfl (rfl : bg_kd 198 = some (7, 23)) (by decide) dL_law_296 ⟨bg_R_toInt _, bg_R_toInt _, bg_R_toInt _, bg_R_toInt _, trivial⟩ (Nat.le_of_ble_eq_true rfl) rfl h1 h2 ?_
  rintro r2 g2 ⟨e2, M2, F2⟩
  refine bl_same (pc := 299) C (by rw [e1, e2]) dL_law_299 (by decide) ?_
  exact kk g2 _ (X1.mo F2) M2 (ok_addBed ok)
theorem bl_case_4 (C : bl_C κ y b L xs) {i : Nat} (hl : bl_L y b i a) (hi : i + 4 < L) {g : bg_E} {Z : bm_X} (hX : clsR g Z) (hM : modR g Z) (ok : okX Z) (h1 : c1 ≤ 600000) (h2 : c2 ≤ 7302250) (kk : ∀ (g1 : bg_E) (Z1 : bm_X), clsR g1 Z1 → modR g1 Z1 → okX Z1 → bl_H κ y (c1, c2) 1060 a [] (bg_O g1)) : bl_H κ y (c1, c2) 304 a [] (bg_O g) := by
  refine bl_x (pc := 304) C hl dL_law_304 ?_
  refine bl_arg (pc := 305) (k := 1) C hl dL_law_305 dL_law_306 dL_law_307 dL_law_308 dL_law_309 (by omega) ?_
  refine bl_arg (pc := 310) (k := 2) C hl dL_law_310 dL_law_311 dL_law_312 dL_law_313 dL_law_314 (by omega) ?_
  refine bl_call (pc := 315) (a0 := 0) (As := [.inl (xs (i + 1)).toInt, .inl (xs (i + 2)).toInt]) (st := []) C hl (c_X6_removeBed hX) vX6_removeBed lL_31 rfl (rfl : bg_kd 0 = some (6, 9)) (by decide) dL_law_315 ⟨bg_R_toInt _, bg_R_toInt _, trivial⟩ (Nat.le_of_ble_eq_true rfl) rfl h1 h2 ?_
  rintro r1 g1 ⟨e1, X1, F1⟩
  refine bl_m (pc := 318) C hl dL_law_318 ?_
  refine bl_arg (pc := 319) (k := 1) C hl dL_law_319 dL_law_320 dL_law_321 dL_law_322 dL_law_323 (by omega) ?_
  refine bl_arg (pc := 324) (k := 2) C hl dL_law_324 dL_law_325 dL_law_326 dL_law_327 dL_law_328 (by omega) ?_
  refine bl_call (pc := 329) (a0 := 198) (As := [.inl (xs (i + 1)).toInt, .inl (xs (i + 2)).toInt]) (st := [.int (Int32.ofInt r1)]) C hl (c_X7_removeBed (hM.out F1) ok) vX7_removeBed lL_34 rfl (rfl : bg_kd 198 = some (7, 23)) (by decide) dL_law_329 ⟨bg_R_toInt _, bg_R_toInt _, trivial⟩ (Nat.le_of_ble_eq_true rfl) rfl h1 h2 ?_
  rintro r2 g2 ⟨e2, M2, F2⟩
  refine bl_same (pc := 332) C (by rw [e1, e2]) dL_law_332 (by decide) ?_
  exact kk g2 _ (X1.mo F2) M2 (ok_removeBed ok)
theorem bl_case_5 (C : bl_C κ y b L xs) {i : Nat} (hl : bl_L y b i a) (hi : i + 4 < L) {g : bg_E} {Z : bm_X} (hX : clsR g Z) (hM : modR g Z) (ok : okX Z) (h1 : c1 ≤ 600000) (h2 : c2 ≤ 7302250) (kk : ∀ (g1 : bg_E) (Z1 : bm_X), clsR g1 Z1 → modR g1 Z1 → okX Z1 → bl_H κ y (c1, c2) 1060 a [] (bg_O g1)) : bl_H κ y (c1, c2) 337 a [] (bg_O g) := by
  refine bl_x (pc := 337) C hl dL_law_337 ?_
  refine bl_arg (pc := 338) (k := 1) C hl dL_law_338 dL_law_339 dL_law_340 dL_law_341 dL_law_342 (by omega) ?_
  refine bl_arg (pc := 343) (k := 2) C hl dL_law_343 dL_law_344 dL_law_345 dL_law_346 dL_law_347 (by omega) ?_
  refine bl_arg (pc := 348) (k := 3) C hl dL_law_348 dL_law_349 dL_law_350 dL_law_351 dL_law_352 (by omega) ?_
  refine bl_call (pc := 353) (a0 := 0) (As := [.inl (xs (i + 1)).toInt, .inl (xs (i + 2)).toInt, .inl (xs (i + 3)).toInt]) (st := []) C hl (c_X6_setThickness hX ok) vX6_setThickness lL_35 rfl (rfl : bg_kd 0 = some (6, 9)) (by decide) dL_law_353 ⟨bg_R_toInt _, bg_R_toInt _, bg_R_toInt _, trivial⟩ (Nat.le_of_ble_eq_true rfl) rfl h1 h2 ?_
  rintro r1 g1 ⟨e1, X1, F1⟩
  refine bl_m (pc := 356) C hl dL_law_356 ?_
  refine bl_arg (pc := 357) (k := 1) C hl dL_law_357 dL_law_358 dL_law_359 dL_law_360 dL_law_361 (by omega) ?_
  refine bl_arg (pc := 362) (k := 2) C hl dL_law_362 dL_law_363 dL_law_364 dL_law_365 dL_law_366 (by omega) ?_
  refine bl_arg (pc := 367) (k := 3) C hl dL_law_367 dL_law_368 dL_law_369 dL_law_370 dL_law_371 (by omega) ?_
  refine bl_call (pc := 372) (a0 := 198) (As := [.inl (xs (i + 1)).toInt, .inl (xs (i + 2)).toInt, .inl (xs (i + 3)).toInt]) (st := [.int (Int32.ofInt r1)]) C hl (c_X7_setThickness (hM.out F1) ok) vX7_setThickness lL_39 rfl (rfl : bg_kd 198 = some (7, 23)) (by decide) dL_law_372 ⟨bg_R_toInt _, bg_R_toInt _, bg_R_toInt _, trivial⟩ (Nat.le_of_ble_eq_true rfl) rfl h1 h2 ?_
  rintro r2 g2 ⟨e2, M2, F2⟩
  refine bl_same (pc := 375) C (by rw [e1, e2]) dL_law_375 (by decide) ?_
  exact kk g2 _ (X1.mo F2) M2 (ok_setThickness ok)
theorem bl_case_6 (C : bl_C κ y b L xs) {i : Nat} (hl : bl_L y b i a) (hi : i + 4 < L) {g : bg_E} {Z : bm_X} (hX : clsR g Z) (hM : modR g Z) (ok : okX Z) (h1 : c1 ≤ 600000) (h2 : c2 ≤ 7302250) (kk : ∀ (g1 : bg_E) (Z1 : bm_X), clsR g1 Z1 → modR g1 Z1 → okX Z1 → bl_H κ y (c1, c2) 1060 a [] (bg_O g1)) : bl_H κ y (c1, c2) 380 a [] (bg_O g) := by
  refine bl_x (pc := 380) C hl dL_law_380 ?_
  refine bl_arg (pc := 381) (k := 1) C hl dL_law_381 dL_law_382 dL_law_383 dL_law_384 dL_law_385 (by omega) ?_
  refine bl_arg (pc := 386) (k := 2) C hl dL_law_386 dL_law_387 dL_law_388 dL_law_389 dL_law_390 (by omega) ?_
  refine bl_arg (pc := 391) (k := 3) C hl dL_law_391 dL_law_392 dL_law_393 dL_law_394 dL_law_395 (by omega) ?_
  refine bl_call (pc := 396) (a0 := 0) (As := [.inl (xs (i + 1)).toInt, .inl (xs (i + 2)).toInt, .inl (xs (i + 3)).toInt]) (st := []) C hl (c_X6_cut hX ok) vX6_cut lL_40 rfl (rfl : bg_kd 0 = some (6, 9)) (by decide) dL_law_396 ⟨bg_R_toInt _, bg_R_toInt _, bg_R_toInt _, trivial⟩ (Nat.le_of_ble_eq_true rfl) rfl h1 h2 ?_
  rintro r1 g1 ⟨e1, X1, F1⟩
  refine bl_m (pc := 399) C hl dL_law_399 ?_
  refine bl_arg (pc := 400) (k := 1) C hl dL_law_400 dL_law_401 dL_law_402 dL_law_403 dL_law_404 (by omega) ?_
  refine bl_arg (pc := 405) (k := 2) C hl dL_law_405 dL_law_406 dL_law_407 dL_law_408 dL_law_409 (by omega) ?_
  refine bl_arg (pc := 410) (k := 3) C hl dL_law_410 dL_law_411 dL_law_412 dL_law_413 dL_law_414 (by omega) ?_
  refine bl_call (pc := 415) (a0 := 198) (As := [.inl (xs (i + 1)).toInt, .inl (xs (i + 2)).toInt, .inl (xs (i + 3)).toInt]) (st := [.int (Int32.ofInt r1)]) C hl (c_X7_cut (hM.out F1) ok) vX7_cut lL_43 rfl (rfl : bg_kd 198 = some (7, 23)) (by decide) dL_law_415 ⟨bg_R_toInt _, bg_R_toInt _, bg_R_toInt _, trivial⟩ (Nat.le_of_ble_eq_true rfl) rfl h1 h2 ?_
  rintro r2 g2 ⟨e2, M2, F2⟩
  refine bl_same (pc := 418) C (by rw [e1, e2]) dL_law_418 (by decide) ?_
  exact kk g2 _ (X1.mo F2) M2 (ok_cut ok)
theorem bl_case_7 (C : bl_C κ y b L xs) {i : Nat} (hl : bl_L y b i a) (hi : i + 4 < L) {g : bg_E} {Z : bm_X} (hX : clsR g Z) (hM : modR g Z) (ok : okX Z) (h1 : c1 ≤ 600000) (h2 : c2 ≤ 7302250) (kk : ∀ (g1 : bg_E) (Z1 : bm_X), clsR g1 Z1 → modR g1 Z1 → okX Z1 → bl_H κ y (c1, c2) 1060 a [] (bg_O g1)) : bl_H κ y (c1, c2) 423 a [] (bg_O g) := by
  refine bl_x (pc := 423) C hl dL_law_423 ?_
  refine bl_arg (pc := 424) (k := 1) C hl dL_law_424 dL_law_425 dL_law_426 dL_law_427 dL_law_428 (by omega) ?_
  refine bl_call (pc := 429) (a0 := 0) (As := [.inl (xs (i + 1)).toInt]) (st := []) C hl (c_X6_appendCharacter hX) vX6_appendCharacter lL_44 rfl (rfl : bg_kd 0 = some (6, 9)) (by decide) dL_law_429 ⟨bg_R_toInt _, trivial⟩ (Nat.le_of_ble_eq_true rfl) rfl h1 h2 ?_
  rintro r1 g1 ⟨e1, X1, F1⟩
  refine bl_m (pc := 432) C hl dL_law_432 ?_
  refine bl_arg (pc := 433) (k := 1) C hl dL_law_433 dL_law_434 dL_law_435 dL_law_436 dL_law_437 (by omega) ?_
  refine bl_call (pc := 438) (a0 := 198) (As := [.inl (xs (i + 1)).toInt]) (st := [.int (Int32.ofInt r1)]) C hl (c_X7_appendCharacter (hM.out F1)) vX7_appendCharacter lL_48 rfl (rfl : bg_kd 198 = some (7, 23)) (by decide) dL_law_438 ⟨bg_R_toInt _, trivial⟩ (Nat.le_of_ble_eq_true rfl) rfl h1 h2 ?_
  rintro r2 g2 ⟨e2, M2, F2⟩
  refine bl_same (pc := 441) C (by rw [e1, e2]) dL_law_441 (by decide) ?_
  exact kk g2 _ (X1.mo F2) M2 (ok_append ok)
theorem bl_case_8 (C : bl_C κ y b L xs) {i : Nat} (hl : bl_L y b i a) (hi : i + 4 < L) {g : bg_E} {Z : bm_X} (hX : clsR g Z) (hM : modR g Z) (ok : okX Z) (h1 : c1 ≤ 600000) (h2 : c2 ≤ 7302250) (kk : ∀ (g1 : bg_E) (Z1 : bm_X), clsR g1 Z1 → modR g1 Z1 → okX Z1 → bl_H κ y (c1, c2) 1060 a [] (bg_O g1)) : bl_H κ y (c1, c2) 446 a [] (bg_O g) := by
  refine bl_x (pc := 446) C hl dL_law_446 ?_
  refine bl_call (pc := 447) (a0 := 0) (As := []) (st := []) C hl (c_X6_clearText hX) vX6_clearText lL_49 rfl (rfl : bg_kd 0 = some (6, 9)) (by decide) dL_law_447 trivial (Nat.le_of_ble_eq_true rfl) rfl h1 h2 ?_
  rintro r1 g1 ⟨e1, X1, F1⟩
  refine bl_m (pc := 450) C hl dL_law_450 ?_
  refine bl_call (pc := 451) (a0 := 198) (As := []) (st := [.int (Int32.ofInt r1)]) C hl (c_X7_clearText (hM.out F1)) vX7_clearText lL_53 rfl (rfl : bg_kd 198 = some (7, 23)) (by decide) dL_law_451 trivial (Nat.le_of_ble_eq_true rfl) rfl h1 h2 ?_
  rintro r2 g2 ⟨e2, M2, F2⟩
  refine bl_same (pc := 454) C (by rw [e1, e2]) dL_law_454 (by decide) ?_
  exact kk g2 _ (X1.mo F2) M2 (ok_clear ok)
theorem bl_case_9 (C : bl_C κ y b L xs) {i : Nat} (hl : bl_L y b i a) (hi : i + 4 < L) {g : bg_E} {Z : bm_X} (hX : clsR g Z) (hM : modR g Z) (ok : okX Z) (h1 : c1 ≤ 600000) (h2 : c2 ≤ 7302250) (kk : ∀ (g1 : bg_E) (Z1 : bm_X), clsR g1 Z1 → modR g1 Z1 → okX Z1 → bl_H κ y (c1, c2) 1060 a [] (bg_O g1)) : bl_H κ y (c1, c2) 459 a [] (bg_O g) := by
  refine bl_x (pc := 459) C hl dL_law_459 ?_
  refine bl_call (pc := 460) (a0 := 0) (As := []) (st := []) C hl (c_X6_load hX ok) vX6_load lL_54 rfl (rfl : bg_kd 0 = some (6, 9)) (by decide) dL_law_460 trivial (Nat.le_of_ble_eq_true rfl) rfl h1 h2 ?_
  rintro r1 g1 ⟨e1, X1, F1⟩
  refine bl_m (pc := 463) C hl dL_law_463 ?_
  refine bl_call (pc := 464) (a0 := 198) (As := []) (st := [.int (Int32.ofInt r1)]) C hl (c_X7_load (hM.out F1) ok) vX7_load lL_57 rfl (rfl : bg_kd 198 = some (7, 23)) (by decide) dL_law_464 trivial (Nat.le_of_ble_eq_true rfl) rfl h1 h2 ?_
  rintro r2 g2 ⟨e2, M2, F2⟩
  refine bl_same (pc := 467) C (by rw [e1, e2]) dL_law_467 (by decide) ?_
  exact kk g2 _ (X1.mo F2) M2 (ok_load ok)
theorem bl_case_10 (C : bl_C κ y b L xs) {i : Nat} (hl : bl_L y b i a) (hi : i + 4 < L) {g : bg_E} {Z : bm_X} (hX : clsR g Z) (hM : modR g Z) (ok : okX Z) (h1 : c1 ≤ 600000) (h2 : c2 ≤ 7302250) (kk : ∀ (g1 : bg_E) (Z1 : bm_X), clsR g1 Z1 → modR g1 Z1 → okX Z1 → bl_H κ y (c1, c2) 1060 a [] (bg_O g1)) : bl_H κ y (c1, c2) 472 a [] (bg_O g) := by
  refine bl_x (pc := 472) C hl dL_law_472 ?_
  refine bl_arg (pc := 473) (k := 1) C hl dL_law_473 dL_law_474 dL_law_475 dL_law_476 dL_law_477 (by omega) ?_
  refine bl_call (pc := 478) (a0 := 0) (As := [.inl (xs (i + 1)).toInt]) (st := []) C hl (c_X6_keep hX ok) vX6_keep lL_58 rfl (rfl : bg_kd 0 = some (6, 9)) (by decide) dL_law_478 ⟨bg_R_toInt _, trivial⟩ (Nat.le_of_ble_eq_true rfl) rfl h1 h2 ?_
  rintro r1 g1 ⟨e1, X1, F1⟩
  refine bl_m (pc := 481) C hl dL_law_481 ?_
  refine bl_arg (pc := 482) (k := 1) C hl dL_law_482 dL_law_483 dL_law_484 dL_law_485 dL_law_486 (by omega) ?_
  refine bl_call (pc := 487) (a0 := 198) (As := [.inl (xs (i + 1)).toInt]) (st := [.int (Int32.ofInt r1)]) C hl (c_X7_keep (hM.out F1) ok) vX7_keep lL_61 rfl (rfl : bg_kd 198 = some (7, 23)) (by decide) dL_law_487 ⟨bg_R_toInt _, trivial⟩ (Nat.le_of_ble_eq_true rfl) rfl h1 h2 ?_
  rintro r2 g2 ⟨e2, M2, F2⟩
  refine bl_same (pc := 490) C (by rw [e1, e2]) dL_law_490 (by decide) ?_
  exact kk g2 _ (X1.mo F2) M2 (ok_keep ok)
theorem bl_case_11 (C : bl_C κ y b L xs) {i : Nat} (hl : bl_L y b i a) (hi : i + 4 < L) {g : bg_E} {Z : bm_X} (hX : clsR g Z) (hM : modR g Z) (ok : okX Z) (h1 : c1 ≤ 600000) (h2 : c2 ≤ 7302250) (kk : ∀ (g1 : bg_E) (Z1 : bm_X), clsR g1 Z1 → modR g1 Z1 → okX Z1 → bl_H κ y (c1, c2) 1060 a [] (bg_O g1)) : bl_H κ y (c1, c2) 495 a [] (bg_O g) := by
  refine bl_x (pc := 495) C hl dL_law_495 ?_
  refine bl_arg (pc := 496) (k := 1) C hl dL_law_496 dL_law_497 dL_law_498 dL_law_499 dL_law_500 (by omega) ?_
  refine bl_call (pc := 501) (a0 := 0) (As := [.inl (xs (i + 1)).toInt]) (st := []) C hl (c_X6_back hX ok) vX6_back lL_62 rfl (rfl : bg_kd 0 = some (6, 9)) (by decide) dL_law_501 ⟨bg_R_toInt _, trivial⟩ (Nat.le_of_ble_eq_true rfl) rfl h1 h2 ?_
  rintro r1 g1 ⟨e1, X1, F1⟩
  refine bl_m (pc := 504) C hl dL_law_504 ?_
  refine bl_arg (pc := 505) (k := 1) C hl dL_law_505 dL_law_506 dL_law_507 dL_law_508 dL_law_509 (by omega) ?_
  refine bl_call (pc := 510) (a0 := 198) (As := [.inl (xs (i + 1)).toInt]) (st := [.int (Int32.ofInt r1)]) C hl (c_X7_back (hM.out F1) ok) vX7_back lL_65 rfl (rfl : bg_kd 198 = some (7, 23)) (by decide) dL_law_510 ⟨bg_R_toInt _, trivial⟩ (Nat.le_of_ble_eq_true rfl) rfl h1 h2 ?_
  rintro r2 g2 ⟨e2, M2, F2⟩
  refine bl_same (pc := 513) C (by rw [e1, e2]) dL_law_513 (by decide) ?_
  exact kk g2 _ (X1.mo F2) M2 (ok_back ok)
theorem bl_case_12 (C : bl_C κ y b L xs) {i : Nat} (hl : bl_L y b i a) (hi : i + 4 < L) {g : bg_E} {Z : bm_X} (hX : clsR g Z) (hM : modR g Z) (ok : okX Z) (h1 : c1 ≤ 600000) (h2 : c2 ≤ 7302250) (kk : ∀ (g1 : bg_E) (Z1 : bm_X), clsR g1 Z1 → modR g1 Z1 → okX Z1 → bl_H κ y (c1, c2) 1060 a [] (bg_O g1)) : bl_H κ y (c1, c2) 518 a [] (bg_O g) := by
  refine bl_x (pc := 518) C hl dL_law_518 ?_
  refine bl_call (pc := 519) (a0 := 0) (As := []) (st := []) C hl (c_X6_undo hX) vX6_undo lL_66 rfl (rfl : bg_kd 0 = some (6, 9)) (by decide) dL_law_519 trivial (Nat.le_of_ble_eq_true rfl) rfl h1 h2 ?_
  rintro r1 g1 ⟨e1, X1, F1⟩
  refine bl_m (pc := 522) C hl dL_law_522 ?_
  refine bl_call (pc := 523) (a0 := 198) (As := []) (st := [.int (Int32.ofInt r1)]) C hl (c_X7_undo (hM.out F1) ok) vX7_undo lL_69 rfl (rfl : bg_kd 198 = some (7, 23)) (by decide) dL_law_523 trivial (Nat.le_of_ble_eq_true rfl) rfl h1 h2 ?_
  rintro r2 g2 ⟨e2, M2, F2⟩
  refine bl_same (pc := 526) C (by rw [e1, e2]) dL_law_526 (by decide) ?_
  exact kk g2 _ (X1.mo F2) M2 (ok_undo ok)
theorem bl_case_13 (C : bl_C κ y b L xs) {i : Nat} (hl : bl_L y b i a) (hi : i + 4 < L) {g : bg_E} {Z : bm_X} (hX : clsR g Z) (hM : modR g Z) (ok : okX Z) (h1 : c1 ≤ 600000) (h2 : c2 ≤ 7302250) (kk : ∀ (g1 : bg_E) (Z1 : bm_X), clsR g1 Z1 → modR g1 Z1 → okX Z1 → bl_H κ y (c1, c2) 1060 a [] (bg_O g1)) : bl_H κ y (c1, c2) 531 a [] (bg_O g) := by
  refine bl_x (pc := 531) C hl dL_law_531 ?_
  refine bl_arg (pc := 532) (k := 1) C hl dL_law_532 dL_law_533 dL_law_534 dL_law_535 dL_law_536 (by omega) ?_
  refine bl_call (pc := 537) (a0 := 0) (As := [.inl (xs (i + 1)).toInt]) (st := []) C hl (c_X6_count hX ok) vX6_count lL_70 rfl (rfl : bg_kd 0 = some (6, 9)) (by decide) dL_law_537 ⟨bg_R_toInt _, trivial⟩ (Nat.le_of_ble_eq_true rfl) rfl h1 h2 ?_
  rintro r1 g1 ⟨e1, X1, F1⟩
  refine bl_m (pc := 540) C hl dL_law_540 ?_
  refine bl_arg (pc := 541) (k := 1) C hl dL_law_541 dL_law_542 dL_law_543 dL_law_544 dL_law_545 (by omega) ?_
  refine bl_call (pc := 546) (a0 := 198) (As := [.inl (xs (i + 1)).toInt]) (st := [.int (Int32.ofInt r1)]) C hl (c_X7_count (hM.out F1) ok) vX7_count lL_73 rfl (rfl : bg_kd 198 = some (7, 23)) (by decide) dL_law_546 ⟨bg_R_toInt _, trivial⟩ (Nat.le_of_ble_eq_true rfl) rfl h1 h2 ?_
  rintro r2 g2 ⟨e2, M2, F2⟩
  refine bl_same (pc := 549) C (by rw [e1, e2]) dL_law_549 (by decide) ?_
  exact kk g2 _ (X1.mo F2) M2 ok
theorem bl_case_14 (C : bl_C κ y b L xs) {i : Nat} (hl : bl_L y b i a) (hi : i + 4 < L) {g : bg_E} {Z : bm_X} (hX : clsR g Z) (hM : modR g Z) (ok : okX Z) (h1 : c1 ≤ 600000) (h2 : c2 ≤ 7302250) (kk : ∀ (g1 : bg_E) (Z1 : bm_X), clsR g1 Z1 → modR g1 Z1 → okX Z1 → bl_H κ y (c1, c2) 1060 a [] (bg_O g1)) : bl_H κ y (c1, c2) 554 a [] (bg_O g) := by
  refine bl_x (pc := 554) C hl dL_law_554 ?_
  refine bl_arg (pc := 555) (k := 1) C hl dL_law_555 dL_law_556 dL_law_557 dL_law_558 dL_law_559 (by omega) ?_
  refine bl_arg (pc := 560) (k := 2) C hl dL_law_560 dL_law_561 dL_law_562 dL_law_563 dL_law_564 (by omega) ?_
  refine bl_call (pc := 565) (a0 := 0) (As := [.inl (xs (i + 1)).toInt, .inl (xs (i + 2)).toInt]) (st := []) C hl (c_X6_hole hX ok) vX6_hole lL_74 rfl (rfl : bg_kd 0 = some (6, 9)) (by decide) dL_law_565 ⟨bg_R_toInt _, bg_R_toInt _, trivial⟩ (Nat.le_of_ble_eq_true rfl) rfl h1 h2 ?_
  rintro r1 g1 ⟨e1, X1, F1⟩
  refine bl_m (pc := 568) C hl dL_law_568 ?_
  refine bl_arg (pc := 569) (k := 1) C hl dL_law_569 dL_law_570 dL_law_571 dL_law_572 dL_law_573 (by omega) ?_
  refine bl_arg (pc := 574) (k := 2) C hl dL_law_574 dL_law_575 dL_law_576 dL_law_577 dL_law_578 (by omega) ?_
  refine bl_call (pc := 579) (a0 := 198) (As := [.inl (xs (i + 1)).toInt, .inl (xs (i + 2)).toInt]) (st := [.int (Int32.ofInt r1)]) C hl (c_X7_hole (hM.out F1) ok) vX7_hole lL_77 rfl (rfl : bg_kd 198 = some (7, 23)) (by decide) dL_law_579 ⟨bg_R_toInt _, bg_R_toInt _, trivial⟩ (Nat.le_of_ble_eq_true rfl) rfl h1 h2 ?_
  rintro r2 g2 ⟨e2, M2, F2⟩
  refine bl_same (pc := 582) C (by rw [e1, e2]) dL_law_582 (by decide) ?_
  exact kk g2 _ (X1.mo F2) M2 ok
theorem bl_case_15 (C : bl_C κ y b L xs) {i : Nat} (hl : bl_L y b i a) (hi : i + 4 < L) {g : bg_E} {Z : bm_X} (hX : clsR g Z) (hM : modR g Z) (ok : okX Z) (h1 : c1 ≤ 600000) (h2 : c2 ≤ 7302250) (kk : ∀ (g1 : bg_E) (Z1 : bm_X), clsR g1 Z1 → modR g1 Z1 → okX Z1 → bl_H κ y (c1, c2) 1060 a [] (bg_O g1)) : bl_H κ y (c1, c2) 587 a [] (bg_O g) := by
  refine bl_x (pc := 587) C hl dL_law_587 ?_
  refine bl_arg (pc := 588) (k := 1) C hl dL_law_588 dL_law_589 dL_law_590 dL_law_591 dL_law_592 (by omega) ?_
  refine bl_arg (pc := 593) (k := 2) C hl dL_law_593 dL_law_594 dL_law_595 dL_law_596 dL_law_597 (by omega) ?_
  refine bl_arg (pc := 598) (k := 3) C hl dL_law_598 dL_law_599 dL_law_600 dL_law_601 dL_law_602 (by omega) ?_
  refine bl_call (pc := 603) (a0 := 0) (As := [.inl (xs (i + 1)).toInt, .inl (xs (i + 2)).toInt, .inl (xs (i + 3)).toInt]) (st := []) C hl (c_X6_bed hX ok) vX6_bed lL_78 rfl (rfl : bg_kd 0 = some (6, 9)) (by decide) dL_law_603 ⟨bg_R_toInt _, bg_R_toInt _, bg_R_toInt _, trivial⟩ (Nat.le_of_ble_eq_true rfl) rfl h1 h2 ?_
  rintro r1 g1 ⟨e1, X1, F1⟩
  refine bl_m (pc := 606) C hl dL_law_606 ?_
  refine bl_arg (pc := 607) (k := 1) C hl dL_law_607 dL_law_608 dL_law_609 dL_law_610 dL_law_611 (by omega) ?_
  refine bl_arg (pc := 612) (k := 2) C hl dL_law_612 dL_law_613 dL_law_614 dL_law_615 dL_law_616 (by omega) ?_
  refine bl_arg (pc := 617) (k := 3) C hl dL_law_617 dL_law_618 dL_law_619 dL_law_620 dL_law_621 (by omega) ?_
  refine bl_call (pc := 622) (a0 := 198) (As := [.inl (xs (i + 1)).toInt, .inl (xs (i + 2)).toInt, .inl (xs (i + 3)).toInt]) (st := [.int (Int32.ofInt r1)]) C hl (c_X7_bed (hM.out F1) ok) vX7_bed lL_81 rfl (rfl : bg_kd 198 = some (7, 23)) (by decide) dL_law_622 ⟨bg_R_toInt _, bg_R_toInt _, bg_R_toInt _, trivial⟩ (Nat.le_of_ble_eq_true rfl) rfl h1 h2 ?_
  rintro r2 g2 ⟨e2, M2, F2⟩
  refine bl_same (pc := 625) C (by rw [e1, e2]) dL_law_625 (by decide) ?_
  exact kk g2 _ (X1.mo F2) M2 ok
theorem bl_case_16 (C : bl_C κ y b L xs) {i : Nat} (hl : bl_L y b i a) (hi : i + 4 < L) {g : bg_E} {Z : bm_X} (hX : clsR g Z) (hM : modR g Z) (ok : okX Z) (h1 : c1 ≤ 600000) (h2 : c2 ≤ 7302250) (kk : ∀ (g1 : bg_E) (Z1 : bm_X), clsR g1 Z1 → modR g1 Z1 → okX Z1 → bl_H κ y (c1, c2) 1060 a [] (bg_O g1)) : bl_H κ y (c1, c2) 630 a [] (bg_O g) := by
  refine bl_x (pc := 630) C hl dL_law_630 ?_
  refine bl_arg (pc := 631) (k := 1) C hl dL_law_631 dL_law_632 dL_law_633 dL_law_634 dL_law_635 (by omega) ?_
  refine bl_arg (pc := 636) (k := 2) C hl dL_law_636 dL_law_637 dL_law_638 dL_law_639 dL_law_640 (by omega) ?_
  refine bl_arg (pc := 641) (k := 3) C hl dL_law_641 dL_law_642 dL_law_643 dL_law_644 dL_law_645 (by omega) ?_
  refine bl_call (pc := 646) (a0 := 0) (As := [.inl (xs (i + 1)).toInt, .inl (xs (i + 2)).toInt, .inl (xs (i + 3)).toInt]) (st := []) C hl (c_X6_find hX) vX6_find lL_82 rfl (rfl : bg_kd 0 = some (6, 9)) (by decide) dL_law_646 ⟨bg_R_toInt _, bg_R_toInt _, bg_R_toInt _, trivial⟩ (Nat.le_of_ble_eq_true rfl) rfl h1 h2 ?_
  rintro r1 g1 ⟨e1, X1, F1⟩
  refine bl_m (pc := 649) C hl dL_law_649 ?_
  refine bl_arg (pc := 650) (k := 1) C hl dL_law_650 dL_law_651 dL_law_652 dL_law_653 dL_law_654 (by omega) ?_
  refine bl_arg (pc := 655) (k := 2) C hl dL_law_655 dL_law_656 dL_law_657 dL_law_658 dL_law_659 (by omega) ?_
  refine bl_arg (pc := 660) (k := 3) C hl dL_law_660 dL_law_661 dL_law_662 dL_law_663 dL_law_664 (by omega) ?_
  refine bl_call (pc := 665) (a0 := 198) (As := [.inl (xs (i + 1)).toInt, .inl (xs (i + 2)).toInt, .inl (xs (i + 3)).toInt]) (st := [.int (Int32.ofInt r1)]) C hl (c_X7_find (hM.out F1) ok) vX7_find lL_85 rfl (rfl : bg_kd 198 = some (7, 23)) (by decide) dL_law_665 ⟨bg_R_toInt _, bg_R_toInt _, bg_R_toInt _, trivial⟩ (Nat.le_of_ble_eq_true rfl) rfl h1 h2 ?_
  rintro r2 g2 ⟨e2, M2, F2⟩
  refine bl_same (pc := 668) C (by rw [e1, e2]) dL_law_668 (by decide) ?_
  exact kk g2 _ (X1.mo F2) M2 ok
theorem bl_case_17 (C : bl_C κ y b L xs) {i : Nat} (hl : bl_L y b i a) (hi : i + 4 < L) {g : bg_E} {Z : bm_X} (hX : clsR g Z) (hM : modR g Z) (ok : okX Z) (h1 : c1 ≤ 600000) (h2 : c2 ≤ 7302250) (kk : ∀ (g1 : bg_E) (Z1 : bm_X), clsR g1 Z1 → modR g1 Z1 → okX Z1 → bl_H κ y (c1, c2) 1060 a [] (bg_O g1)) : bl_H κ y (c1, c2) 673 a [] (bg_O g) := by
  refine bl_x (pc := 673) C hl dL_law_673 ?_
  refine bl_arg (pc := 674) (k := 1) C hl dL_law_674 dL_law_675 dL_law_676 dL_law_677 dL_law_678 (by omega) ?_
  refine bl_call (pc := 679) (a0 := 0) (As := [.inl (xs (i + 1)).toInt]) (st := []) C hl (c_X6_account hX ok) vX6_account lL_86 rfl (rfl : bg_kd 0 = some (6, 9)) (by decide) dL_law_679 ⟨bg_R_toInt _, trivial⟩ (Nat.le_of_ble_eq_true rfl) rfl h1 h2 ?_
  rintro r1 g1 ⟨e1, X1, F1⟩
  refine bl_m (pc := 682) C hl dL_law_682 ?_
  refine bl_arg (pc := 683) (k := 1) C hl dL_law_683 dL_law_684 dL_law_685 dL_law_686 dL_law_687 (by omega) ?_
  refine bl_call (pc := 688) (a0 := 198) (As := [.inl (xs (i + 1)).toInt]) (st := [.int (Int32.ofInt r1)]) C hl (c_X7_account (hM.out F1) ok) vX7_account lL_89 rfl (rfl : bg_kd 198 = some (7, 23)) (by decide) dL_law_688 ⟨bg_R_toInt _, trivial⟩ (Nat.le_of_ble_eq_true rfl) rfl h1 h2 ?_
  rintro r2 g2 ⟨e2, M2, F2⟩
  refine bl_same (pc := 691) C (by rw [e1, e2]) dL_law_691 (by decide) ?_
  exact kk g2 _ (X1.mo F2) M2 ok
theorem bl_case_18 (C : bl_C κ y b L xs) {i : Nat} (hl : bl_L y b i a) (hi : i + 4 < L) {g : bg_E} {Z : bm_X} (hX : clsR g Z) (hM : modR g Z) (ok : okX Z) (h1 : c1 ≤ 600000) (h2 : c2 ≤ 7302250) (kk : ∀ (g1 : bg_E) (Z1 : bm_X), clsR g1 Z1 → modR g1 Z1 → okX Z1 → bl_H κ y (c1, c2) 1060 a [] (bg_O g1)) : bl_H κ y (c1, c2) 696 a [] (bg_O g) := by
  refine bl_x (pc := 696) C hl dL_law_696 ?_
  refine bl_arg (pc := 697) (k := 1) C hl dL_law_697 dL_law_698 dL_law_699 dL_law_700 dL_law_701 (by omega) ?_
  refine bl_arg (pc := 702) (k := 2) C hl dL_law_702 dL_law_703 dL_law_704 dL_law_705 dL_law_706 (by omega) ?_
  refine bl_arg (pc := 707) (k := 3) C hl dL_law_707 dL_law_708 dL_law_709 dL_law_710 dL_law_711 (by omega) ?_
  refine bl_call (pc := 712) (a0 := 0) (As := [.inl (xs (i + 1)).toInt, .inl (xs (i + 2)).toInt, .inl (xs (i + 3)).toInt]) (st := []) C hl (c_X6_cost hX ok) vX6_cost lL_90 rfl (rfl : bg_kd 0 = some (6, 9)) (by decide) dL_law_712 ⟨bg_R_toInt _, bg_R_toInt _, bg_R_toInt _, trivial⟩ (Nat.le_of_ble_eq_true rfl) rfl h1 h2 ?_
  rintro r1 g1 ⟨e1, X1, F1⟩
  refine bl_m (pc := 715) C hl dL_law_715 ?_
  refine bl_arg (pc := 716) (k := 1) C hl dL_law_716 dL_law_717 dL_law_718 dL_law_719 dL_law_720 (by omega) ?_
  refine bl_arg (pc := 721) (k := 2) C hl dL_law_721 dL_law_722 dL_law_723 dL_law_724 dL_law_725 (by omega) ?_
  refine bl_arg (pc := 726) (k := 3) C hl dL_law_726 dL_law_727 dL_law_728 dL_law_729 dL_law_730 (by omega) ?_
  refine bl_call (pc := 731) (a0 := 198) (As := [.inl (xs (i + 1)).toInt, .inl (xs (i + 2)).toInt, .inl (xs (i + 3)).toInt]) (st := [.int (Int32.ofInt r1)]) C hl (c_X7_cost (hM.out F1) ok) vX7_cost lL_93 rfl (rfl : bg_kd 198 = some (7, 23)) (by decide) dL_law_731 ⟨bg_R_toInt _, bg_R_toInt _, bg_R_toInt _, trivial⟩ (Nat.le_of_ble_eq_true rfl) rfl h1 h2 ?_
  rintro r2 g2 ⟨e2, M2, F2⟩
  refine bl_same (pc := 734) C (by rw [e1, e2]) dL_law_734 (by decide) ?_
  exact kk g2 _ (X1.mo F2) M2 ok
theorem bl_case_19 (C : bl_C κ y b L xs) {i : Nat} (hl : bl_L y b i a) (hi : i + 4 < L) {g : bg_E} {Z : bm_X} (hX : clsR g Z) (hM : modR g Z) (ok : okX Z) (h1 : c1 ≤ 600000) (h2 : c2 ≤ 7302250) (kk : ∀ (g1 : bg_E) (Z1 : bm_X), clsR g1 Z1 → modR g1 Z1 → okX Z1 → bl_H κ y (c1, c2) 1060 a [] (bg_O g1)) : bl_H κ y (c1, c2) 739 a [] (bg_O g) := by
  refine bl_x (pc := 739) C hl dL_law_739 ?_
  refine bl_arg (pc := 740) (k := 1) C hl dL_law_740 dL_law_741 dL_law_742 dL_law_743 dL_law_744 (by omega) ?_
  refine bl_arg (pc := 745) (k := 2) C hl dL_law_745 dL_law_746 dL_law_747 dL_law_748 dL_law_749 (by omega) ?_
  refine bl_arg (pc := 750) (k := 3) C hl dL_law_750 dL_law_751 dL_law_752 dL_law_753 dL_law_754 (by omega) ?_
  refine bl_arg (pc := 755) (k := 4) C hl dL_law_755 dL_law_756 dL_law_757 dL_law_758 dL_law_759 (by omega) ?_
  refine bl_call (pc := 760) (a0 := 0) (As := [.inl (xs (i + 1)).toInt, .inl (xs (i + 2)).toInt, .inl (xs (i + 3)).toInt, .inl (xs (i + 4)).toInt]) (st := []) C hl (c_X6_why hX ok) vX6_why lL_94 rfl (rfl : bg_kd 0 = some (6, 9)) (by decide) dL_law_760 ⟨bg_R_toInt _, bg_R_toInt _, bg_R_toInt _, bg_R_toInt _, trivial⟩ (Nat.le_of_ble_eq_true rfl) rfl h1 h2 ?_
  rintro r1 g1 ⟨e1, X1, F1⟩
  refine bl_m (pc := 763) C hl dL_law_763 ?_
  refine bl_arg (pc := 764) (k := 1) C hl dL_law_764 dL_law_765 dL_law_766 dL_law_767 dL_law_768 (by omega) ?_
  refine bl_arg (pc := 769) (k := 2) C hl dL_law_769 dL_law_770 dL_law_771 dL_law_772 dL_law_773 (by omega) ?_
  refine bl_arg (pc := 774) (k := 3) C hl dL_law_774 dL_law_775 dL_law_776 dL_law_777 dL_law_778 (by omega) ?_
  refine bl_arg (pc := 779) (k := 4) C hl dL_law_779 dL_law_780 dL_law_781 dL_law_782 dL_law_783 (by omega) ?_
  refine bl_call (pc := 784) (a0 := 198) (As := [.inl (xs (i + 1)).toInt, .inl (xs (i + 2)).toInt, .inl (xs (i + 3)).toInt, .inl (xs (i + 4)).toInt]) (st := [.int (Int32.ofInt r1)]) C hl (c_X7_why (hM.out F1) ok) vX7_why lL_97 rfl (rfl : bg_kd 198 = some (7, 23)) (by decide) dL_law_784 ⟨bg_R_toInt _, bg_R_toInt _, bg_R_toInt _, bg_R_toInt _, trivial⟩ (Nat.le_of_ble_eq_true rfl) rfl h1 h2 ?_
  rintro r2 g2 ⟨e2, M2, F2⟩
  refine bl_same (pc := 787) C (by rw [e1, e2]) dL_law_787 (by decide) ?_
  exact kk g2 _ (X1.mo F2) M2 ok
theorem bl_case_20 (C : bl_C κ y b L xs) {i : Nat} (hl : bl_L y b i a) (hi : i + 4 < L) {g : bg_E} {Z : bm_X} (hX : clsR g Z) (hM : modR g Z) (ok : okX Z) (h1 : c1 ≤ 600000) (h2 : c2 ≤ 7302250) (kk : ∀ (g1 : bg_E) (Z1 : bm_X), clsR g1 Z1 → modR g1 Z1 → okX Z1 → bl_H κ y (c1, c2) 1060 a [] (bg_O g1)) : bl_H κ y (c1, c2) 792 a [] (bg_O g) := by
  refine bl_x (pc := 792) C hl dL_law_792 ?_
  refine bl_arg (pc := 793) (k := 1) C hl dL_law_793 dL_law_794 dL_law_795 dL_law_796 dL_law_797 (by omega) ?_
  refine bl_arg (pc := 798) (k := 2) C hl dL_law_798 dL_law_799 dL_law_800 dL_law_801 dL_law_802 (by omega) ?_
  refine bl_arg (pc := 803) (k := 3) C hl dL_law_803 dL_law_804 dL_law_805 dL_law_806 dL_law_807 (by omega) ?_
  refine bl_arg (pc := 808) (k := 4) C hl dL_law_808 dL_law_809 dL_law_810 dL_law_811 dL_law_812 (by omega) ?_
  refine bl_call (pc := 813) (a0 := 0) (As := [.inl (xs (i + 1)).toInt, .inl (xs (i + 2)).toInt, .inl (xs (i + 3)).toInt, .inl (xs (i + 4)).toInt]) (st := []) C hl (c_X6_partner hX ok) vX6_partner lL_98 rfl (rfl : bg_kd 0 = some (6, 9)) (by decide) dL_law_813 ⟨bg_R_toInt _, bg_R_toInt _, bg_R_toInt _, bg_R_toInt _, trivial⟩ (Nat.le_of_ble_eq_true rfl) rfl h1 h2 ?_
  rintro r1 g1 ⟨e1, X1, F1⟩
  refine bl_m (pc := 816) C hl dL_law_816 ?_
  refine bl_arg (pc := 817) (k := 1) C hl dL_law_817 dL_law_818 dL_law_819 dL_law_820 dL_law_821 (by omega) ?_
  refine bl_arg (pc := 822) (k := 2) C hl dL_law_822 dL_law_823 dL_law_824 dL_law_825 dL_law_826 (by omega) ?_
  refine bl_arg (pc := 827) (k := 3) C hl dL_law_827 dL_law_828 dL_law_829 dL_law_830 dL_law_831 (by omega) ?_
  refine bl_arg (pc := 832) (k := 4) C hl dL_law_832 dL_law_833 dL_law_834 dL_law_835 dL_law_836 (by omega) ?_
  refine bl_call (pc := 837) (a0 := 198) (As := [.inl (xs (i + 1)).toInt, .inl (xs (i + 2)).toInt, .inl (xs (i + 3)).toInt, .inl (xs (i + 4)).toInt]) (st := [.int (Int32.ofInt r1)]) C hl (c_X7_partner (hM.out F1) ok) vX7_partner lL_101 rfl (rfl : bg_kd 198 = some (7, 23)) (by decide) dL_law_837 ⟨bg_R_toInt _, bg_R_toInt _, bg_R_toInt _, bg_R_toInt _, trivial⟩ (Nat.le_of_ble_eq_true rfl) rfl h1 h2 ?_
  rintro r2 g2 ⟨e2, M2, F2⟩
  refine bl_same (pc := 840) C (by rw [e1, e2]) dL_law_840 (by decide) ?_
  exact kk g2 _ (X1.mo F2) M2 ok
theorem bl_case_21 (C : bl_C κ y b L xs) {i : Nat} (hl : bl_L y b i a) (hi : i + 4 < L) {g : bg_E} {Z : bm_X} (hX : clsR g Z) (hM : modR g Z) (ok : okX Z) (h1 : c1 ≤ 600000) (h2 : c2 ≤ 7302250) (kk : ∀ (g1 : bg_E) (Z1 : bm_X), clsR g1 Z1 → modR g1 Z1 → okX Z1 → bl_H κ y (c1, c2) 1060 a [] (bg_O g1)) : bl_H κ y (c1, c2) 845 a [] (bg_O g) := by
  refine bl_x (pc := 845) C hl dL_law_845 ?_
  refine bl_arg (pc := 846) (k := 1) C hl dL_law_846 dL_law_847 dL_law_848 dL_law_849 dL_law_850 (by omega) ?_
  refine bl_arg (pc := 851) (k := 2) C hl dL_law_851 dL_law_852 dL_law_853 dL_law_854 dL_law_855 (by omega) ?_
  refine bl_arg (pc := 856) (k := 3) C hl dL_law_856 dL_law_857 dL_law_858 dL_law_859 dL_law_860 (by omega) ?_
  refine bl_call (pc := 861) (a0 := 0) (As := [.inl (xs (i + 1)).toInt, .inl (xs (i + 2)).toInt, .inl (xs (i + 3)).toInt]) (st := []) C hl (c_X6_matched hX ok) vX6_matched lL_102 rfl (rfl : bg_kd 0 = some (6, 9)) (by decide) dL_law_861 ⟨bg_R_toInt _, bg_R_toInt _, bg_R_toInt _, trivial⟩ (Nat.le_of_ble_eq_true rfl) rfl h1 h2 ?_
  rintro r1 g1 ⟨e1, X1, F1⟩
  refine bl_m (pc := 864) C hl dL_law_864 ?_
  refine bl_arg (pc := 865) (k := 1) C hl dL_law_865 dL_law_866 dL_law_867 dL_law_868 dL_law_869 (by omega) ?_
  refine bl_arg (pc := 870) (k := 2) C hl dL_law_870 dL_law_871 dL_law_872 dL_law_873 dL_law_874 (by omega) ?_
  refine bl_arg (pc := 875) (k := 3) C hl dL_law_875 dL_law_876 dL_law_877 dL_law_878 dL_law_879 (by omega) ?_
  refine bl_call (pc := 880) (a0 := 198) (As := [.inl (xs (i + 1)).toInt, .inl (xs (i + 2)).toInt, .inl (xs (i + 3)).toInt]) (st := [.int (Int32.ofInt r1)]) C hl (c_X7_matched (hM.out F1) ok) vX7_matched lL_105 rfl (rfl : bg_kd 198 = some (7, 23)) (by decide) dL_law_880 ⟨bg_R_toInt _, bg_R_toInt _, bg_R_toInt _, trivial⟩ (Nat.le_of_ble_eq_true rfl) rfl h1 h2 ?_
  rintro r2 g2 ⟨e2, M2, F2⟩
  refine bl_same (pc := 883) C (by rw [e1, e2]) dL_law_883 (by decide) ?_
  exact kk g2 _ (X1.mo F2) M2 ok
theorem bl_case_22 (C : bl_C κ y b L xs) {i : Nat} (hl : bl_L y b i a) (hi : i + 4 < L) {g : bg_E} {Z : bm_X} (hX : clsR g Z) (hM : modR g Z) (ok : okX Z) (h1 : c1 ≤ 600000) (h2 : c2 ≤ 7302250) (kk : ∀ (g1 : bg_E) (Z1 : bm_X), clsR g1 Z1 → modR g1 Z1 → okX Z1 → bl_H κ y (c1, c2) 1060 a [] (bg_O g1)) : bl_H κ y (c1, c2) 888 a [] (bg_O g) := by
  refine bl_x (pc := 888) C hl dL_law_888 ?_
  refine bl_arg (pc := 889) (k := 1) C hl dL_law_889 dL_law_890 dL_law_891 dL_law_892 dL_law_893 (by omega) ?_
  refine bl_arg (pc := 894) (k := 2) C hl dL_law_894 dL_law_895 dL_law_896 dL_law_897 dL_law_898 (by omega) ?_
  refine bl_arg (pc := 899) (k := 3) C hl dL_law_899 dL_law_900 dL_law_901 dL_law_902 dL_law_903 (by omega) ?_
  refine bl_arg (pc := 904) (k := 4) C hl dL_law_904 dL_law_905 dL_law_906 dL_law_907 dL_law_908 (by omega) ?_
  refine bl_call (pc := 909) (a0 := 0) (As := [.inl (xs (i + 1)).toInt, .inl (xs (i + 2)).toInt, .inl (xs (i + 3)).toInt, .inl (xs (i + 4)).toInt]) (st := []) C hl (c_X6_fault hX ok) vX6_fault lL_106 rfl (rfl : bg_kd 0 = some (6, 9)) (by decide) dL_law_909 ⟨bg_R_toInt _, bg_R_toInt _, bg_R_toInt _, bg_R_toInt _, trivial⟩ (Nat.le_of_ble_eq_true rfl) rfl h1 h2 ?_
  rintro r1 g1 ⟨e1, X1, F1⟩
  refine bl_m (pc := 912) C hl dL_law_912 ?_
  refine bl_arg (pc := 913) (k := 1) C hl dL_law_913 dL_law_914 dL_law_915 dL_law_916 dL_law_917 (by omega) ?_
  refine bl_arg (pc := 918) (k := 2) C hl dL_law_918 dL_law_919 dL_law_920 dL_law_921 dL_law_922 (by omega) ?_
  refine bl_arg (pc := 923) (k := 3) C hl dL_law_923 dL_law_924 dL_law_925 dL_law_926 dL_law_927 (by omega) ?_
  refine bl_arg (pc := 928) (k := 4) C hl dL_law_928 dL_law_929 dL_law_930 dL_law_931 dL_law_932 (by omega) ?_
  refine bl_call (pc := 933) (a0 := 198) (As := [.inl (xs (i + 1)).toInt, .inl (xs (i + 2)).toInt, .inl (xs (i + 3)).toInt, .inl (xs (i + 4)).toInt]) (st := [.int (Int32.ofInt r1)]) C hl (c_X7_fault (hM.out F1) ok) vX7_fault lL_109 rfl (rfl : bg_kd 198 = some (7, 23)) (by decide) dL_law_933 ⟨bg_R_toInt _, bg_R_toInt _, bg_R_toInt _, bg_R_toInt _, trivial⟩ (Nat.le_of_ble_eq_true rfl) rfl h1 h2 ?_
  rintro r2 g2 ⟨e2, M2, F2⟩
  refine bl_same (pc := 936) C (by rw [e1, e2]) dL_law_936 (by decide) ?_
  exact kk g2 _ (X1.mo F2) M2 ok
theorem bl_case_23 (C : bl_C κ y b L xs) {i : Nat} (hl : bl_L y b i a) (hi : i + 4 < L) {g : bg_E} {Z : bm_X} (hX : clsR g Z) (hM : modR g Z) (ok : okX Z) (h1 : c1 ≤ 600000) (h2 : c2 ≤ 7302250) (kk : ∀ (g1 : bg_E) (Z1 : bm_X), clsR g1 Z1 → modR g1 Z1 → okX Z1 → bl_H κ y (c1, c2) 1060 a [] (bg_O g1)) : bl_H κ y (c1, c2) 941 a [] (bg_O g) := by
  refine bl_x (pc := 941) C hl dL_law_941 ?_
  refine bl_arg (pc := 942) (k := 1) C hl dL_law_942 dL_law_943 dL_law_944 dL_law_945 dL_law_946 (by omega) ?_
  refine bl_arg (pc := 947) (k := 2) C hl dL_law_947 dL_law_948 dL_law_949 dL_law_950 dL_law_951 (by omega) ?_
  refine bl_arg (pc := 952) (k := 3) C hl dL_law_952 dL_law_953 dL_law_954 dL_law_955 dL_law_956 (by omega) ?_
  refine bl_call (pc := 957) (a0 := 0) (As := [.inl (xs (i + 1)).toInt, .inl (xs (i + 2)).toInt, .inl (xs (i + 3)).toInt]) (st := []) C hl (c_X6_sumOfThrows hX ok) vX6_sumOfThrows lL_110 rfl (rfl : bg_kd 0 = some (6, 9)) (by decide) dL_law_957 ⟨bg_R_toInt _, bg_R_toInt _, bg_R_toInt _, trivial⟩ (Nat.le_of_ble_eq_true rfl) rfl h1 h2 ?_
  rintro r1 g1 ⟨e1, X1, F1⟩
  refine bl_m (pc := 960) C hl dL_law_960 ?_
  refine bl_arg (pc := 961) (k := 1) C hl dL_law_961 dL_law_962 dL_law_963 dL_law_964 dL_law_965 (by omega) ?_
  refine bl_arg (pc := 966) (k := 2) C hl dL_law_966 dL_law_967 dL_law_968 dL_law_969 dL_law_970 (by omega) ?_
  refine bl_arg (pc := 971) (k := 3) C hl dL_law_971 dL_law_972 dL_law_973 dL_law_974 dL_law_975 (by omega) ?_
  refine bl_call (pc := 976) (a0 := 198) (As := [.inl (xs (i + 1)).toInt, .inl (xs (i + 2)).toInt, .inl (xs (i + 3)).toInt]) (st := [.int (Int32.ofInt r1)]) C hl (c_X7_sumOfThrows (hM.out F1) ok) vX7_sumOfThrows lL_113 rfl (rfl : bg_kd 198 = some (7, 23)) (by decide) dL_law_976 ⟨bg_R_toInt _, bg_R_toInt _, bg_R_toInt _, trivial⟩ (Nat.le_of_ble_eq_true rfl) rfl h1 h2 ?_
  rintro r2 g2 ⟨e2, M2, F2⟩
  refine bl_same (pc := 979) C (by rw [e1, e2]) dL_law_979 (by decide) ?_
  exact kk g2 _ (X1.mo F2) M2 ok
theorem bl_case_24 (C : bl_C κ y b L xs) {i : Nat} (hl : bl_L y b i a) (hi : i + 4 < L) {g : bg_E} {Z : bm_X} (hX : clsR g Z) (hM : modR g Z) (ok : okX Z) (h1 : c1 ≤ 600000) (h2 : c2 ≤ 7302250) (kk : ∀ (g1 : bg_E) (Z1 : bm_X), clsR g1 Z1 → modR g1 Z1 → okX Z1 → bl_H κ y (c1, c2) 1060 a [] (bg_O g1)) : bl_H κ y (c1, c2) 984 a [] (bg_O g) := by
  refine bl_x (pc := 984) C hl dL_law_984 ?_
  refine bl_arg (pc := 985) (k := 1) C hl dL_law_985 dL_law_986 dL_law_987 dL_law_988 dL_law_989 (by omega) ?_
  refine bl_arg (pc := 990) (k := 2) C hl dL_law_990 dL_law_991 dL_law_992 dL_law_993 dL_law_994 (by omega) ?_
  refine bl_call (pc := 995) (a0 := 0) (As := [.inl (xs (i + 1)).toInt, .inl (xs (i + 2)).toInt]) (st := []) C hl (c_X6_nearest hX ok) vX6_nearest lL_114 rfl (rfl : bg_kd 0 = some (6, 9)) (by decide) dL_law_995 ⟨bg_R_toInt _, bg_R_toInt _, trivial⟩ (Nat.le_of_ble_eq_true rfl) rfl h1 h2 ?_
  rintro r1 g1 ⟨e1, X1, F1⟩
  refine bl_m (pc := 998) C hl dL_law_998 ?_
  refine bl_arg (pc := 999) (k := 1) C hl dL_law_999 dL_law_1000 dL_law_1001 dL_law_1002 dL_law_1003 (by omega) ?_
  refine bl_arg (pc := 1004) (k := 2) C hl dL_law_1004 dL_law_1005 dL_law_1006 dL_law_1007 dL_law_1008 (by omega) ?_
  refine bl_call (pc := 1009) (a0 := 198) (As := [.inl (xs (i + 1)).toInt, .inl (xs (i + 2)).toInt]) (st := [.int (Int32.ofInt r1)]) C hl (c_X7_nearest (hM.out F1) ok) vX7_nearest lL_117 rfl (rfl : bg_kd 198 = some (7, 23)) (by decide) dL_law_1009 ⟨bg_R_toInt _, bg_R_toInt _, trivial⟩ (Nat.le_of_ble_eq_true rfl) rfl h1 h2 ?_
  rintro r2 g2 ⟨e2, M2, F2⟩
  refine bl_same (pc := 1012) C (by rw [e1, e2]) dL_law_1012 (by decide) ?_
  exact kk g2 _ (X1.mo F2) M2 ok
theorem bl_case_25 (C : bl_C κ y b L xs) {i : Nat} (hl : bl_L y b i a) (hi : i + 4 < L) {g : bg_E} {Z : bm_X} (hX : clsR g Z) (hM : modR g Z) (ok : okX Z) (h1 : c1 ≤ 600000) (h2 : c2 ≤ 7302250) (kk : ∀ (g1 : bg_E) (Z1 : bm_X), clsR g1 Z1 → modR g1 Z1 → okX Z1 → bl_H κ y (c1, c2) 1060 a [] (bg_O g1)) : bl_H κ y (c1, c2) 1017 a [] (bg_O g) := by
  refine bl_x (pc := 1017) C hl dL_law_1017 ?_
  refine bl_arg (pc := 1018) (k := 1) C hl dL_law_1018 dL_law_1019 dL_law_1020 dL_law_1021 dL_law_1022 (by omega) ?_
  refine bl_arg (pc := 1023) (k := 2) C hl dL_law_1023 dL_law_1024 dL_law_1025 dL_law_1026 dL_law_1027 (by omega) ?_
  refine bl_arg (pc := 1028) (k := 3) C hl dL_law_1028 dL_law_1029 dL_law_1030 dL_law_1031 dL_law_1032 (by omega) ?_
  refine bl_call (pc := 1033) (a0 := 0) (As := [.inl (xs (i + 1)).toInt, .inl (xs (i + 2)).toInt, .inl (xs (i + 3)).toInt]) (st := []) C hl (c_X6_closed hX ok) vX6_closed lL_118 rfl (rfl : bg_kd 0 = some (6, 9)) (by decide) dL_law_1033 ⟨bg_R_toInt _, bg_R_toInt _, bg_R_toInt _, trivial⟩ (Nat.le_of_ble_eq_true rfl) rfl h1 h2 ?_
  rintro r1 g1 ⟨e1, X1, F1⟩
  refine bl_m (pc := 1036) C hl dL_law_1036 ?_
  refine bl_arg (pc := 1037) (k := 1) C hl dL_law_1037 dL_law_1038 dL_law_1039 dL_law_1040 dL_law_1041 (by omega) ?_
  refine bl_arg (pc := 1042) (k := 2) C hl dL_law_1042 dL_law_1043 dL_law_1044 dL_law_1045 dL_law_1046 (by omega) ?_
  refine bl_arg (pc := 1047) (k := 3) C hl dL_law_1047 dL_law_1048 dL_law_1049 dL_law_1050 dL_law_1051 (by omega) ?_
  refine bl_call (pc := 1052) (a0 := 198) (As := [.inl (xs (i + 1)).toInt, .inl (xs (i + 2)).toInt, .inl (xs (i + 3)).toInt]) (st := [.int (Int32.ofInt r1)]) C hl (c_X7_closed (hM.out F1) ok) vX7_closed lL_121 rfl (rfl : bg_kd 198 = some (7, 23)) (by decide) dL_law_1052 ⟨bg_R_toInt _, bg_R_toInt _, bg_R_toInt _, trivial⟩ (Nat.le_of_ble_eq_true rfl) rfl h1 h2 ?_
  rintro r2 g2 ⟨e2, M2, F2⟩
  refine bl_same (pc := 1055) C (by rw [e1, e2]) dL_law_1055 (by decide) ?_
  exact kk g2 _ (X1.mo F2) M2 ok
theorem bl_disp (C : bl_C κ y b L xs) {i : Nat} (hl : bl_L y b i a) (hi : i + 4 < L) {g : bg_E} {Z : bm_X} (hX : clsR g Z) (hM : modR g Z) (ok : okX Z) (h1 : c1 ≤ 600000) (h2 : c2 ≤ 7302250) (kk : ∀ (g1 : bg_E) (Z1 : bm_X), clsR g1 Z1 → modR g1 Z1 → okX Z1 → bl_H κ y (c1, c2) 1060 a [] (bg_O g1)) (v : Int32) : bl_H κ y (c1, c2) 32 a [.int v] (bg_O g) := by
  by_cases hr : v.toInt < 0 ∨ 25 < v.toInt
  · intro H locs hD hS
    exact lv_tableOut C.1.1 C.1.2.1 dL_law_32 hr (by decide) (kk g Z hX hM ok H locs hD hS)
  · have hc : v.toInt = 0 ∨ v.toInt = 1 ∨ v.toInt = 2 ∨ v.toInt = 3 ∨ v.toInt = 4 ∨ v.toInt = 5 ∨ v.toInt = 6 ∨ v.toInt = 7 ∨ v.toInt = 8 ∨ v.toInt = 9 ∨ v.toInt = 10 ∨ v.toInt = 11 ∨ v.toInt = 12 ∨ v.toInt = 13 ∨ v.toInt = 14 ∨ v.toInt = 15 ∨ v.toInt = 16 ∨ v.toInt = 17 ∨ v.toInt = 18 ∨ v.toInt = 19 ∨ v.toInt = 20 ∨ v.toInt = 21 ∨ v.toInt = 22 ∨ v.toInt = 23 ∨ v.toInt = 24 ∨ v.toInt = 25 := by omega
    rcases hc with e | e | e | e | e | e | e | e | e | e | e | e | e | e | e | e | e | e | e | e | e | e | e | e | e | e
    · intro H locs hD hS
      exact lv_tableIn (off := 120) (tgt := 152) C.1.1 C.1.2.1 dL_law_32 (by omega) (by omega) (by rw [e]; rfl) (by decide) (bl_case_0 C hl hi hX hM ok h1 h2 kk H locs hD hS)
    · intro H locs hD hS
      exact lv_tableIn (off := 153) (tgt := 185) C.1.1 C.1.2.1 dL_law_32 (by omega) (by omega) (by rw [e]; rfl) (by decide) (bl_case_1 C hl hi hX hM ok h1 h2 kk H locs hD hS)
    · intro H locs hD hS
      exact lv_tableIn (off := 186) (tgt := 218) C.1.1 C.1.2.1 dL_law_32 (by omega) (by omega) (by rw [e]; rfl) (by decide) (bl_case_2 C hl hi hX hM ok h1 h2 kk H locs hD hS)
    · intro H locs hD hS
      exact lv_tableIn (off := 219) (tgt := 251) C.1.1 C.1.2.1 dL_law_32 (by omega) (by omega) (by rw [e]; rfl) (by decide) (bl_case_3 C hl hi hX hM ok h1 h2 kk H locs hD hS)
    · intro H locs hD hS
      exact lv_tableIn (off := 272) (tgt := 304) C.1.1 C.1.2.1 dL_law_32 (by omega) (by omega) (by rw [e]; rfl) (by decide) (bl_case_4 C hl hi hX hM ok h1 h2 kk H locs hD hS)
    · intro H locs hD hS
      exact lv_tableIn (off := 305) (tgt := 337) C.1.1 C.1.2.1 dL_law_32 (by omega) (by omega) (by rw [e]; rfl) (by decide) (bl_case_5 C hl hi hX hM ok h1 h2 kk H locs hD hS)
    · intro H locs hD hS
      exact lv_tableIn (off := 348) (tgt := 380) C.1.1 C.1.2.1 dL_law_32 (by omega) (by omega) (by rw [e]; rfl) (by decide) (bl_case_6 C hl hi hX hM ok h1 h2 kk H locs hD hS)
    · intro H locs hD hS
      exact lv_tableIn (off := 391) (tgt := 423) C.1.1 C.1.2.1 dL_law_32 (by omega) (by omega) (by rw [e]; rfl) (by decide) (bl_case_7 C hl hi hX hM ok h1 h2 kk H locs hD hS)
    · intro H locs hD hS
      exact lv_tableIn (off := 414) (tgt := 446) C.1.1 C.1.2.1 dL_law_32 (by omega) (by omega) (by rw [e]; rfl) (by decide) (bl_case_8 C hl hi hX hM ok h1 h2 kk H locs hD hS)
    · intro H locs hD hS
      exact lv_tableIn (off := 427) (tgt := 459) C.1.1 C.1.2.1 dL_law_32 (by omega) (by omega) (by rw [e]; rfl) (by decide) (bl_case_9 C hl hi hX hM ok h1 h2 kk H locs hD hS)
    · intro H locs hD hS
      exact lv_tableIn (off := 440) (tgt := 472) C.1.1 C.1.2.1 dL_law_32 (by omega) (by omega) (by rw [e]; rfl) (by decide) (bl_case_10 C hl hi hX hM ok h1 h2 kk H locs hD hS)
    · intro H locs hD hS
      exact lv_tableIn (off := 463) (tgt := 495) C.1.1 C.1.2.1 dL_law_32 (by omega) (by omega) (by rw [e]; rfl) (by decide) (bl_case_11 C hl hi hX hM ok h1 h2 kk H locs hD hS)
    · intro H locs hD hS
      exact lv_tableIn (off := 486) (tgt := 518) C.1.1 C.1.2.1 dL_law_32 (by omega) (by omega) (by rw [e]; rfl) (by decide) (bl_case_12 C hl hi hX hM ok h1 h2 kk H locs hD hS)
    · intro H locs hD hS
      exact lv_tableIn (off := 499) (tgt := 531) C.1.1 C.1.2.1 dL_law_32 (by omega) (by omega) (by rw [e]; rfl) (by decide) (bl_case_13 C hl hi hX hM ok h1 h2 kk H locs hD hS)
    · intro H locs hD hS
      exact lv_tableIn (off := 522) (tgt := 554) C.1.1 C.1.2.1 dL_law_32 (by omega) (by omega) (by rw [e]; rfl) (by decide) (bl_case_14 C hl hi hX hM ok h1 h2 kk H locs hD hS)
    · intro H locs hD hS
      exact lv_tableIn (off := 555) (tgt := 587) C.1.1 C.1.2.1 dL_law_32 (by omega) (by omega) (by rw [e]; rfl) (by decide) (bl_case_15 C hl hi hX hM ok h1 h2 kk H locs hD hS)
    · intro H locs hD hS
      exact lv_tableIn (off := 598) (tgt := 630) C.1.1 C.1.2.1 dL_law_32 (by omega) (by omega) (by rw [e]; rfl) (by decide) (bl_case_16 C hl hi hX hM ok h1 h2 kk H locs hD hS)
    · intro H locs hD hS
      exact lv_tableIn (off := 641) (tgt := 673) C.1.1 C.1.2.1 dL_law_32 (by omega) (by omega) (by rw [e]; rfl) (by decide) (bl_case_17 C hl hi hX hM ok h1 h2 kk H locs hD hS)
    · intro H locs hD hS
      exact lv_tableIn (off := 664) (tgt := 696) C.1.1 C.1.2.1 dL_law_32 (by omega) (by omega) (by rw [e]; rfl) (by decide) (bl_case_18 C hl hi hX hM ok h1 h2 kk H locs hD hS)
    · intro H locs hD hS
      exact lv_tableIn (off := 707) (tgt := 739) C.1.1 C.1.2.1 dL_law_32 (by omega) (by omega) (by rw [e]; rfl) (by decide) (bl_case_19 C hl hi hX hM ok h1 h2 kk H locs hD hS)
    · intro H locs hD hS
      exact lv_tableIn (off := 760) (tgt := 792) C.1.1 C.1.2.1 dL_law_32 (by omega) (by omega) (by rw [e]; rfl) (by decide) (bl_case_20 C hl hi hX hM ok h1 h2 kk H locs hD hS)
    · intro H locs hD hS
      exact lv_tableIn (off := 813) (tgt := 845) C.1.1 C.1.2.1 dL_law_32 (by omega) (by omega) (by rw [e]; rfl) (by decide) (bl_case_21 C hl hi hX hM ok h1 h2 kk H locs hD hS)
    · intro H locs hD hS
      exact lv_tableIn (off := 856) (tgt := 888) C.1.1 C.1.2.1 dL_law_32 (by omega) (by omega) (by rw [e]; rfl) (by decide) (bl_case_22 C hl hi hX hM ok h1 h2 kk H locs hD hS)
    · intro H locs hD hS
      exact lv_tableIn (off := 909) (tgt := 941) C.1.1 C.1.2.1 dL_law_32 (by omega) (by omega) (by rw [e]; rfl) (by decide) (bl_case_23 C hl hi hX hM ok h1 h2 kk H locs hD hS)
    · intro H locs hD hS
      exact lv_tableIn (off := 952) (tgt := 984) C.1.1 C.1.2.1 dL_law_32 (by omega) (by omega) (by rw [e]; rfl) (by decide) (bl_case_24 C hl hi hX hM ok h1 h2 kk H locs hD hS)
    · intro H locs hD hS
      exact lv_tableIn (off := 985) (tgt := 1017) C.1.1 C.1.2.1 dL_law_32 (by omega) (by omega) (by rw [e]; rfl) (by decide) (bl_case_25 C hl hi hX hM ok h1 h2 kk H locs hD hS)
theorem bl_loop (C : bl_C κ y b L xs) (h1 : c1 ≤ 600000) (h2 : c2 ≤ 7302250) (hend : ∀ (a : Array Slot) (g : bg_E), bl_H κ y (c1, c2) 1066 a [] (bg_O g)) : ∀ (n i : Nat) (a : Array Slot) (g : bg_E) (Z : bm_X), L + 5 - i ≤ n → i ≤ L → bl_L y b i a → clsR g Z → modR g Z → okX Z → bl_H κ y (c1, c2) 18 a [] (bg_O g) := by
  intro n
  induction n with
  | zero => intro i a g Z hn hi hl hX hM ok; omega
  | succ n ih =>
    intro i a g Z hn hi hl hX hM ok
    have hL := C.2.2.2.2.1
    have R1 : R32 (L : Int) := ⟨by omega, by omega⟩
    have Ri : R32 (i : Int) := ⟨by omega, by omega⟩
    have R5 : R32 ((L : Int) - 5) := ⟨by omega, by omega⟩
    intro H locs hD hS
    obtain ⟨hx, hb, hown, hts, hK, hbs, hlk, r1, r2, r3, r4⟩ := C.1
    have hbA : ¬ bg_A y b := fun h => by
      have h : y.1 ≤ b := h
      have := C.2.2.1
      have := C.2.2.2.1
      omega
    refine lv_iload_n hx hb dL_law_18 rfl (lv_at hl 0 rfl) ?_
    refine lv_aload_n hx hb dL_law_19 rfl (lv_at hl 3 rfl) ?_
    refine va_slen hx hb C.2.1 C.2.2.1 hbA hS dL_law_20 ?_
    refine lv_iconst hx hb dL_law_21 rfl ?_
    refine lv_isub hx hb dL_law_22 ?_
    have e5 : Int32.ofNat L - Int32.ofInt 5 = Int32.ofInt ((L : Int) - 5) := by rw [Int32.ofInt_sub]; rfl
    rw [e5]
    refine lv_icmp_gt (tgt := 1066) hx hb dL_law_23 (by decide) (fun _ => hend a g H locs hD hS) (fun h => ?_)
    have hi4 : i + 4 < L := by
      have h9 : ¬ ((L : Int) - 5 < (i : Int)) := fun q => h ((bg_lt R5 Ri).mpr q)
      omega
    refine lv_aload_n hx hb dL_law_26 rfl (lv_at hl 3 rfl) ?_
    refine lv_iload_n hx hb dL_law_27 rfl (lv_at hl 0 rfl) ?_
    refine va_sld hx hb C.2.1 C.2.2.1 hbA hS (bg_vpin Ri (by omega) (by omega)) dL_law_28 ?_
    refine lv_bipush hx hb dL_law_29 rfl ?_
    refine lv_iand hx hb dL_law_31 ?_
    refine bl_disp C hl hi4 hX hM ok h1 h2 (fun g1 Z1 hX1 hM1 ok1 => ?_) _ H locs hD hS
    intro H1 locs1 hD1 hS1
    have e6 : Int32.ofNat i + Int32.ofInt 5 = Int32.ofNat (i + 5) := by
      show Int32.ofInt (i : Int) + Int32.ofInt 5 = Int32.ofInt ((i + 5 : Nat) : Int)
      rw [← Int32.ofInt_add]; rfl
    refine lv_iinc (k := 0) (lv' := [(3, .int (Int32.ofNat (i + 5))), (2, .ref (y.1 + 198)), (1, .ref (y.1 + 0)), (0, .ref b)]) hx hb dL_law_1060 hl rfl e6 (by decide) rfl (fun a1 ha1 => ?_)
    refine lv_goto (tgt := 18) hx hb dL_law_1063 (by decide) ?_
    exact ih (i + 5) a1 g1 Z1 (by omega) (by omega) ha1 hX1 hM1 ok1 H1 locs1 hD1 hS1
end LAW
