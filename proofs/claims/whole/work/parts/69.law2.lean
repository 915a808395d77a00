/-! ===== the law: its calls, one by one, and its loop ===== -/
section LC
variable {G : zG} {p : Program} {e : Env} {s : State} {m : MethodId} {below : List Frame} {meth : Method} {c : Code} {b L i : Nat} {xs : Nat → Int32} {M : zM}
theorem law_0 (C : lCx G p s m meth c b L xs) (hi : i + 4 ≤ L) (hz : zC M) (kend : ∀ M2 : zM, zC M2 → lW G p e s m below meth c b i 751 [] M2) : lW G p e s m below meth c b i 140 [] M := by
  obtain ⟨Q1, hc, hk⟩ := b_setSnail (G := G) (zr (xs (i + 1))) (zr (xs (i + 2))) hz
  refine l_obj1 C dL_law_140 ?_
  refine l_arg C (d := 1) hi (by decide) dL_law_141 dL_law_142 dL_law_143 dL_law_144 dL_law_145 ?_
  refine l_arg C (d := 2) hi (by decide) dL_law_146 dL_law_147 dL_law_148 dL_law_149 dL_law_150 ?_
  refine l_call C mX4_setSnail hc rfl dL_law_151 lL_13 (by decide) rfl (Nat.le_of_ble_eq_true rfl) (by decide) rfl (by decide) rfl (fun v M1 q1 => ?_)
  obtain ⟨r, rfl, Q2, hm, hk2⟩ := hk v M1 q1
  refine l_obj2 C dL_law_154 ?_
  refine l_arg C (d := 1) hi (by decide) dL_law_155 dL_law_156 dL_law_157 dL_law_158 dL_law_159 ?_
  refine l_arg C (d := 2) hi (by decide) dL_law_160 dL_law_161 dL_law_162 dL_law_163 dL_law_164 ?_
  refine l_call C mX5_setSnail hm rfl dL_law_165 lL_17 (by decide) rfl (Nat.le_of_ble_eq_true rfl) (by decide) rfl (by decide) rfl (fun w M2 q2 => ?_)
  obtain ⟨rfl, hz2⟩ := hk2 w M2 q2
  exact l_eq C dL_law_168 (by decide) (kend M2 hz2)
theorem law_1 (C : lCx G p s m meth c b L xs) (hi : i + 4 ≤ L) (hz : zC M) (kend : ∀ M2 : zM, zC M2 → lW G p e s m below meth c b i 751 [] M2) : lW G p e s m below meth c b i 173 [] M := by
  obtain ⟨Q1, hc, hk⟩ := b_takeOff (G := G) (zr (xs (i + 1))) hz
  refine l_obj1 C dL_law_173 ?_
  refine l_arg C (d := 1) hi (by decide) dL_law_174 dL_law_175 dL_law_176 dL_law_177 dL_law_178 ?_
  refine l_call C mX4_takeOff hc rfl dL_law_179 lL_18 (by decide) rfl (Nat.le_of_ble_eq_true rfl) (by decide) rfl (by decide) rfl (fun v M1 q1 => ?_)
  obtain ⟨r, rfl, Q2, hm, hk2⟩ := hk v M1 q1
  refine l_obj2 C dL_law_182 ?_
  refine l_arg C (d := 1) hi (by decide) dL_law_183 dL_law_184 dL_law_185 dL_law_186 dL_law_187 ?_
  refine l_call C mX5_takeOff hm rfl dL_law_188 lL_22 (by decide) rfl (Nat.le_of_ble_eq_true rfl) (by decide) rfl (by decide) rfl (fun w M2 q2 => ?_)
  obtain ⟨rfl, hz2⟩ := hk2 w M2 q2
  exact l_eq C dL_law_191 (by decide) (kend M2 hz2)
theorem law_2 (C : lCx G p s m meth c b L xs) (hi : i + 4 ≤ L) (hz : zC M) (kend : ∀ M2 : zM, zC M2 → lW G p e s m below meth c b i 751 [] M2) : lW G p e s m below meth c b i 196 [] M := by
  obtain ⟨Q1, hc, hk⟩ := b_setFrost (G := G) (zr (xs (i + 1))) (zr (xs (i + 2))) (zr (xs (i + 3))) hz
  refine l_obj1 C dL_law_196 ?_
  refine l_arg C (d := 1) hi (by decide) dL_law_197 dL_law_198 dL_law_199 dL_law_200 dL_law_201 ?_
  refine l_arg C (d := 2) hi (by decide) dL_law_202 dL_law_203 dL_law_204 dL_law_205 dL_law_206 ?_
  refine l_arg C (d := 3) hi (by decide) dL_law_207 dL_law_208 dL_law_209 dL_law_210 dL_law_211 ?_
  refine l_call C mX4_setFrost hc rfl dL_law_212 lL_23 (by decide) rfl (Nat.le_of_ble_eq_true rfl) (by decide) rfl (by decide) rfl (fun v M1 q1 => ?_)
  obtain ⟨r, rfl, Q2, hm, hk2⟩ := hk v M1 q1
  refine l_obj2 C dL_law_215 ?_
  refine l_arg C (d := 1) hi (by decide) dL_law_216 dL_law_217 dL_law_218 dL_law_219 dL_law_220 ?_
  refine l_arg C (d := 2) hi (by decide) dL_law_221 dL_law_222 dL_law_223 dL_law_224 dL_law_225 ?_
  refine l_arg C (d := 3) hi (by decide) dL_law_226 dL_law_227 dL_law_228 dL_law_229 dL_law_230 ?_
  refine l_call C mX5_setFrost hm rfl dL_law_231 lL_27 (by decide) rfl (Nat.le_of_ble_eq_true rfl) (by decide) rfl (by decide) rfl (fun w M2 q2 => ?_)
  obtain ⟨rfl, hz2⟩ := hk2 w M2 q2
  exact l_eq C dL_law_234 (by decide) (kend M2 hz2)
theorem law_3 (C : lCx G p s m meth c b L xs) (hi : i + 4 ≤ L) (hz : zC M) (kend : ∀ M2 : zM, zC M2 → lW G p e s m below meth c b i 751 [] M2) : lW G p e s m below meth c b i 239 [] M := by
  obtain ⟨Q1, hc, hk⟩ := b_set (G := G) (zr (xs (i + 1))) (zr (xs (i + 2))) hz
  refine l_obj1 C dL_law_239 ?_
  refine l_arg C (d := 1) hi (by decide) dL_law_240 dL_law_241 dL_law_242 dL_law_243 dL_law_244 ?_
  refine l_arg C (d := 2) hi (by decide) dL_law_245 dL_law_246 dL_law_247 dL_law_248 dL_law_249 ?_
  refine l_call C mX4_set hc rfl dL_law_250 lL_28 (by decide) rfl (Nat.le_of_ble_eq_true rfl) (by decide) rfl (by decide) rfl (fun v M1 q1 => ?_)
  obtain ⟨r, rfl, Q2, hm, hk2⟩ := hk v M1 q1
  refine l_obj2 C dL_law_253 ?_
  refine l_arg C (d := 1) hi (by decide) dL_law_254 dL_law_255 dL_law_256 dL_law_257 dL_law_258 ?_
  refine l_arg C (d := 2) hi (by decide) dL_law_259 dL_law_260 dL_law_261 dL_law_262 dL_law_263 ?_
  refine l_call C mX5_set hm rfl dL_law_264 lL_31 (by decide) rfl (Nat.le_of_ble_eq_true rfl) (by decide) rfl (by decide) rfl (fun w M2 q2 => ?_)
  obtain ⟨rfl, hz2⟩ := hk2 w M2 q2
  exact l_eq C dL_law_267 (by decide) (kend M2 hz2)
theorem law_4 (C : lCx G p s m meth c b L xs) (hi : i + 4 ≤ L) (hz : zC M) (kend : ∀ M2 : zM, zC M2 → lW G p e s m below meth c b i 751 [] M2) : lW G p e s m below meth c b i 272 [] M := by
  obtain ⟨Q1, hc, hk⟩ := b_pass (G := G) (zr (xs (i + 1))) hz
  refine l_obj1 C dL_law_272 ?_
  refine l_arg C (d := 1) hi (by decide) dL_law_273 dL_law_274 dL_law_275 dL_law_276 dL_law_277 ?_
  refine l_call C mX4_pass hc rfl dL_law_278 lL_32 (by decide) rfl (Nat.le_of_ble_eq_true rfl) (by decide) rfl (by decide) rfl (fun v M1 q1 => ?_)
  obtain ⟨r, rfl, Q2, hm, hk2⟩ := hk v M1 q1
  refine l_obj2 C dL_law_281 ?_
  refine l_arg C (d := 1) hi (by decide) dL_law_282 dL_law_283 dL_law_284 dL_law_285 dL_law_286 ?_
  refine l_call C mX5_pass hm rfl dL_law_287 lL_35 (by decide) rfl (Nat.le_of_ble_eq_true rfl) (by decide) rfl (by decide) rfl (fun w M2 q2 => ?_)
  obtain ⟨rfl, hz2⟩ := hk2 w M2 q2
  exact l_eq C dL_law_290 (by decide) (kend M2 hz2)
theorem law_5 (C : lCx G p s m meth c b L xs) (hi : i + 4 ≤ L) (hz : zC M) (kend : ∀ M2 : zM, zC M2 → lW G p e s m below meth c b i 751 [] M2) : lW G p e s m below meth c b i 295 [] M := by
  obtain ⟨Q1, hc, hk⟩ := b_type (G := G) (l_char (xs (i + 1))) hz
  refine l_obj1 C dL_law_295 ?_
  refine l_arg C (d := 1) hi (by decide) dL_law_296 dL_law_297 dL_law_298 dL_law_299 dL_law_300 ?_
  refine l_i2c C dL_law_301 ?_
  refine l_call C mX4_type hc rfl dL_law_302 lL_36 (by decide) rfl (Nat.le_of_ble_eq_true rfl) (by decide) rfl (by decide) rfl (fun v M1 q1 => ?_)
  obtain ⟨r, rfl, Q2, hm, hk2⟩ := hk v M1 q1
  refine l_obj2 C dL_law_305 ?_
  refine l_arg C (d := 1) hi (by decide) dL_law_306 dL_law_307 dL_law_308 dL_law_309 dL_law_310 ?_
  refine l_i2c C dL_law_311 ?_
  refine l_call C mX5_type hm rfl dL_law_312 lL_40 (by decide) rfl (Nat.le_of_ble_eq_true rfl) (by decide) rfl (by decide) rfl (fun w M2 q2 => ?_)
  obtain ⟨rfl, hz2⟩ := hk2 w M2 q2
  exact l_eq C dL_law_315 (by decide) (kend M2 hz2)
theorem law_6 (C : lCx G p s m meth c b L xs) (hi : i + 4 ≤ L) (hz : zC M) (kend : ∀ M2 : zM, zC M2 → lW G p e s m below meth c b i 751 [] M2) : lW G p e s m below meth c b i 320 [] M := by
  obtain ⟨Q1, hc, hk⟩ := b_clearText (G := G)  hz
  refine l_obj1 C dL_law_320 ?_
  refine l_call C mX4_clearText hc rfl dL_law_321 lL_41 (by decide) rfl (Nat.le_of_ble_eq_true rfl) (by decide) rfl (by decide) rfl (fun v M1 q1 => ?_)
  obtain ⟨r, rfl, Q2, hm, hk2⟩ := hk v M1 q1
  refine l_obj2 C dL_law_324 ?_
  refine l_call C mX5_clearText hm rfl dL_law_325 lL_45 (by decide) rfl (Nat.le_of_ble_eq_true rfl) (by decide) rfl (by decide) rfl (fun w M2 q2 => ?_)
  obtain ⟨rfl, hz2⟩ := hk2 w M2 q2
  exact l_eq C dL_law_328 (by decide) (kend M2 hz2)
theorem law_7 (C : lCx G p s m meth c b L xs) (hi : i + 4 ≤ L) (hz : zC M) (kend : ∀ M2 : zM, zC M2 → lW G p e s m below meth c b i 751 [] M2) : lW G p e s m below meth c b i 333 [] M := by
  obtain ⟨Q1, hc, hk⟩ := b_perform (G := G)  hz
  refine l_obj1 C dL_law_333 ?_
  refine l_call C mX4_perform hc rfl dL_law_334 lL_46 (by decide) rfl (Nat.le_of_ble_eq_true rfl) (by decide) rfl (by decide) rfl (fun v M1 q1 => ?_)
  obtain ⟨r, rfl, Q2, hm, hk2⟩ := hk v M1 q1
  refine l_obj2 C dL_law_337 ?_
  refine l_call C mX5_perform hm rfl dL_law_338 lL_49 (by decide) rfl (Nat.le_of_ble_eq_true rfl) (by decide) rfl (by decide) rfl (fun w M2 q2 => ?_)
  obtain ⟨rfl, hz2⟩ := hk2 w M2 q2
  exact l_eq C dL_law_341 (by decide) (kend M2 hz2)
theorem law_8 (C : lCx G p s m meth c b L xs) (hi : i + 4 ≤ L) (hz : zC M) (kend : ∀ M2 : zM, zC M2 → lW G p e s m below meth c b i 751 [] M2) : lW G p e s m below meth c b i 346 [] M := by
  obtain ⟨Q1, hc, hk⟩ := b_stopped (G := G) (zr (xs (i + 1))) hz
  refine l_obj1 C dL_law_346 ?_
  refine l_arg C (d := 1) hi (by decide) dL_law_347 dL_law_348 dL_law_349 dL_law_350 dL_law_351 ?_
  refine l_call C mX4_stopped hc rfl dL_law_352 lL_50 (by decide) rfl (Nat.le_of_ble_eq_true rfl) (by decide) rfl (by decide) rfl (fun v M1 q1 => ?_)
  obtain ⟨r, rfl, Q2, hm, hk2⟩ := hk v M1 q1
  refine l_obj2 C dL_law_355 ?_
  refine l_arg C (d := 1) hi (by decide) dL_law_356 dL_law_357 dL_law_358 dL_law_359 dL_law_360 ?_
  refine l_call C mX5_stopped hm rfl dL_law_361 lL_53 (by decide) rfl (Nat.le_of_ble_eq_true rfl) (by decide) rfl (by decide) rfl (fun w M2 q2 => ?_)
  obtain ⟨rfl, hz2⟩ := hk2 w M2 q2
  exact l_eq C dL_law_364 (by decide) (kend M2 hz2)
theorem law_9 (C : lCx G p s m meth c b L xs) (hi : i + 4 ≤ L) (hz : zC M) (kend : ∀ M2 : zM, zC M2 → lW G p e s m below meth c b i 751 [] M2) : lW G p e s m below meth c b i 369 [] M := by
  obtain ⟨Q1, hc, hk⟩ := b_undo (G := G)  hz
  refine l_obj1 C dL_law_369 ?_
  refine l_call C mX4_undo hc rfl dL_law_370 lL_54 (by decide) rfl (Nat.le_of_ble_eq_true rfl) (by decide) rfl (by decide) rfl (fun v M1 q1 => ?_)
  obtain ⟨r, rfl, Q2, hm, hk2⟩ := hk v M1 q1
  refine l_obj2 C dL_law_373 ?_
  refine l_call C mX5_undo hm rfl dL_law_374 lL_57 (by decide) rfl (Nat.le_of_ble_eq_true rfl) (by decide) rfl (by decide) rfl (fun w M2 q2 => ?_)
  obtain ⟨rfl, hz2⟩ := hk2 w M2 q2
  exact l_eq C dL_law_377 (by decide) (kend M2 hz2)
theorem law_10 (C : lCx G p s m meth c b L xs) (hi : i + 4 ≤ L) (hz : zC M) (kend : ∀ M2 : zM, zC M2 → lW G p e s m below meth c b i 751 [] M2) : lW G p e s m below meth c b i 382 [] M := by
  obtain ⟨Q1, hc, hk⟩ := b_keep (G := G)  hz
  refine l_obj1 C dL_law_382 ?_
  refine l_call C mX4_keep hc rfl dL_law_383 lL_58 (by decide) rfl (Nat.le_of_ble_eq_true rfl) (by decide) rfl (by decide) rfl (fun v M1 q1 => ?_)
  obtain ⟨r, rfl, Q2, hm, hk2⟩ := hk v M1 q1
  refine l_obj2 C dL_law_386 ?_
  refine l_call C mX5_keep hm rfl dL_law_387 lL_61 (by decide) rfl (Nat.le_of_ble_eq_true rfl) (by decide) rfl (by decide) rfl (fun w M2 q2 => ?_)
  obtain ⟨rfl, hz2⟩ := hk2 w M2 q2
  exact l_eq C dL_law_390 (by decide) (kend M2 hz2)
theorem law_11 (C : lCx G p s m meth c b L xs) (hi : i + 4 ≤ L) (hz : zC M) (kend : ∀ M2 : zM, zC M2 → lW G p e s m below meth c b i 751 [] M2) : lW G p e s m below meth c b i 395 [] M := by
  obtain ⟨Q1, hc, hk⟩ := b_restore (G := G)  hz
  refine l_obj1 C dL_law_395 ?_
  refine l_call C mX4_restore hc rfl dL_law_396 lL_62 (by decide) rfl (Nat.le_of_ble_eq_true rfl) (by decide) rfl (by decide) rfl (fun v M1 q1 => ?_)
  obtain ⟨r, rfl, Q2, hm, hk2⟩ := hk v M1 q1
  refine l_obj2 C dL_law_399 ?_
  refine l_call C mX5_restore hm rfl dL_law_400 lL_65 (by decide) rfl (Nat.le_of_ble_eq_true rfl) (by decide) rfl (by decide) rfl (fun w M2 q2 => ?_)
  obtain ⟨rfl, hz2⟩ := hk2 w M2 q2
  exact l_eq C dL_law_403 (by decide) (kend M2 hz2)
theorem law_12 (C : lCx G p s m meth c b L xs) (hi : i + 4 ≤ L) (hz : zC M) (kend : ∀ M2 : zM, zC M2 → lW G p e s m below meth c b i 751 [] M2) : lW G p e s m below meth c b i 408 [] M := by
  obtain ⟨Q1, hc, hk⟩ := b_snail (G := G) (zr (xs (i + 1))) (zr (xs (i + 2))) hz
  refine l_obj1 C dL_law_408 ?_
  refine l_arg C (d := 1) hi (by decide) dL_law_409 dL_law_410 dL_law_411 dL_law_412 dL_law_413 ?_
  refine l_arg C (d := 2) hi (by decide) dL_law_414 dL_law_415 dL_law_416 dL_law_417 dL_law_418 ?_
  refine l_call C mX4_snail hc rfl dL_law_419 lL_66 (by decide) rfl (Nat.le_of_ble_eq_true rfl) (by decide) rfl (by decide) rfl (fun v M1 q1 => ?_)
  obtain ⟨r, rfl, Q2, hm, hk2⟩ := hk v M1 q1
  refine l_obj2 C dL_law_422 ?_
  refine l_arg C (d := 1) hi (by decide) dL_law_423 dL_law_424 dL_law_425 dL_law_426 dL_law_427 ?_
  refine l_arg C (d := 2) hi (by decide) dL_law_428 dL_law_429 dL_law_430 dL_law_431 dL_law_432 ?_
  refine l_call C mX5_snail hm rfl dL_law_433 lL_69 (by decide) rfl (Nat.le_of_ble_eq_true rfl) (by decide) rfl (by decide) rfl (fun w M2 q2 => ?_)
  obtain ⟨rfl, hz2⟩ := hk2 w M2 q2
  exact l_eq C dL_law_436 (by decide) (kend M2 hz2)
theorem law_13 (C : lCx G p s m meth c b L xs) (hi : i + 4 ≤ L) (hz : zC M) (kend : ∀ M2 : zM, zC M2 → lW G p e s m below meth c b i 751 [] M2) : lW G p e s m below meth c b i 441 [] M := by
  obtain ⟨Q1, hc, hk⟩ := b_cell (G := G) (zr (xs (i + 1))) (zr (xs (i + 2))) (zr (xs (i + 3))) hz
  refine l_obj1 C dL_law_441 ?_
  refine l_arg C (d := 1) hi (by decide) dL_law_442 dL_law_443 dL_law_444 dL_law_445 dL_law_446 ?_
  refine l_arg C (d := 2) hi (by decide) dL_law_447 dL_law_448 dL_law_449 dL_law_450 dL_law_451 ?_
  refine l_arg C (d := 3) hi (by decide) dL_law_452 dL_law_453 dL_law_454 dL_law_455 dL_law_456 ?_
  refine l_call C mX4_cell hc rfl dL_law_457 lL_70 (by decide) rfl (Nat.le_of_ble_eq_true rfl) (by decide) rfl (by decide) rfl (fun v M1 q1 => ?_)
  obtain ⟨r, rfl, Q2, hm, hk2⟩ := hk v M1 q1
  refine l_obj2 C dL_law_460 ?_
  refine l_arg C (d := 1) hi (by decide) dL_law_461 dL_law_462 dL_law_463 dL_law_464 dL_law_465 ?_
  refine l_arg C (d := 2) hi (by decide) dL_law_466 dL_law_467 dL_law_468 dL_law_469 dL_law_470 ?_
  refine l_arg C (d := 3) hi (by decide) dL_law_471 dL_law_472 dL_law_473 dL_law_474 dL_law_475 ?_
  refine l_call C mX5_cell hm rfl dL_law_476 lL_73 (by decide) rfl (Nat.le_of_ble_eq_true rfl) (by decide) rfl (by decide) rfl (fun w M2 q2 => ?_)
  obtain ⟨rfl, hz2⟩ := hk2 w M2 q2
  exact l_eq C dL_law_479 (by decide) (kend M2 hz2)
theorem law_14 (C : lCx G p s m meth c b L xs) (hi : i + 4 ≤ L) (hz : zC M) (kend : ∀ M2 : zM, zC M2 → lW G p e s m below meth c b i 751 [] M2) : lW G p e s m below meth c b i 484 [] M := by
  obtain ⟨Q1, hc, hk⟩ := b_cost (G := G) (zr (xs (i + 1))) (zr (xs (i + 2))) hz
  refine l_obj1 C dL_law_484 ?_
  refine l_arg C (d := 1) hi (by decide) dL_law_485 dL_law_486 dL_law_487 dL_law_488 dL_law_489 ?_
  refine l_arg C (d := 2) hi (by decide) dL_law_490 dL_law_491 dL_law_492 dL_law_493 dL_law_494 ?_
  refine l_call C mX4_cost hc rfl dL_law_495 lL_74 (by decide) rfl (Nat.le_of_ble_eq_true rfl) (by decide) rfl (by decide) rfl (fun v M1 q1 => ?_)
  obtain ⟨r, rfl, Q2, hm, hk2⟩ := hk v M1 q1
  refine l_obj2 C dL_law_498 ?_
  refine l_arg C (d := 1) hi (by decide) dL_law_499 dL_law_500 dL_law_501 dL_law_502 dL_law_503 ?_
  refine l_arg C (d := 2) hi (by decide) dL_law_504 dL_law_505 dL_law_506 dL_law_507 dL_law_508 ?_
  refine l_call C mX5_cost hm rfl dL_law_509 lL_77 (by decide) rfl (Nat.le_of_ble_eq_true rfl) (by decide) rfl (by decide) rfl (fun w M2 q2 => ?_)
  obtain ⟨rfl, hz2⟩ := hk2 w M2 q2
  exact l_eq C dL_law_512 (by decide) (kend M2 hz2)
theorem law_15 (C : lCx G p s m meth c b L xs) (hi : i + 4 ≤ L) (hz : zC M) (kend : ∀ M2 : zM, zC M2 → lW G p e s m below meth c b i 751 [] M2) : lW G p e s m below meth c b i 517 [] M := by
  obtain ⟨Q1, hc, hk⟩ := b_does (G := G) (zr (xs (i + 1))) hz
  refine l_obj1 C dL_law_517 ?_
  refine l_arg C (d := 1) hi (by decide) dL_law_518 dL_law_519 dL_law_520 dL_law_521 dL_law_522 ?_
  refine l_call C mX4_does hc rfl dL_law_523 lL_78 (by decide) rfl (Nat.le_of_ble_eq_true rfl) (by decide) rfl (by decide) rfl (fun v M1 q1 => ?_)
  obtain ⟨r, rfl, Q2, hm, hk2⟩ := hk v M1 q1
  refine l_obj2 C dL_law_526 ?_
  refine l_arg C (d := 1) hi (by decide) dL_law_527 dL_law_528 dL_law_529 dL_law_530 dL_law_531 ?_
  refine l_call C mX5_does hm rfl dL_law_532 lL_81 (by decide) rfl (Nat.le_of_ble_eq_true rfl) (by decide) rfl (by decide) rfl (fun w M2 q2 => ?_)
  obtain ⟨rfl, hz2⟩ := hk2 w M2 q2
  exact l_eq C dL_law_535 (by decide) (kend M2 hz2)
theorem law_16 (C : lCx G p s m meth c b L xs) (hi : i + 4 ≤ L) (hz : zC M) (kend : ∀ M2 : zM, zC M2 → lW G p e s m below meth c b i 751 [] M2) : lW G p e s m below meth c b i 540 [] M := by
  obtain ⟨Q1, hc, hk⟩ := b_reason (G := G) (zr (xs (i + 1))) (zr (xs (i + 2))) (zr (xs (i + 3))) hz
  refine l_obj1 C dL_law_540 ?_
  refine l_arg C (d := 1) hi (by decide) dL_law_541 dL_law_542 dL_law_543 dL_law_544 dL_law_545 ?_
  refine l_arg C (d := 2) hi (by decide) dL_law_546 dL_law_547 dL_law_548 dL_law_549 dL_law_550 ?_
  refine l_arg C (d := 3) hi (by decide) dL_law_551 dL_law_552 dL_law_553 dL_law_554 dL_law_555 ?_
  refine l_call C mX4_reason hc rfl dL_law_556 lL_82 (by decide) rfl (Nat.le_of_ble_eq_true rfl) (by decide) rfl (by decide) rfl (fun v M1 q1 => ?_)
  obtain ⟨r, rfl, Q2, hm, hk2⟩ := hk v M1 q1
  refine l_obj2 C dL_law_559 ?_
  refine l_arg C (d := 1) hi (by decide) dL_law_560 dL_law_561 dL_law_562 dL_law_563 dL_law_564 ?_
  refine l_arg C (d := 2) hi (by decide) dL_law_565 dL_law_566 dL_law_567 dL_law_568 dL_law_569 ?_
  refine l_arg C (d := 3) hi (by decide) dL_law_570 dL_law_571 dL_law_572 dL_law_573 dL_law_574 ?_
  refine l_call C mX5_reason hm rfl dL_law_575 lL_85 (by decide) rfl (Nat.le_of_ble_eq_true rfl) (by decide) rfl (by decide) rfl (fun w M2 q2 => ?_)
  obtain ⟨rfl, hz2⟩ := hk2 w M2 q2
  exact l_eq C dL_law_578 (by decide) (kend M2 hz2)
theorem law_17 (C : lCx G p s m meth c b L xs) (hi : i + 4 ≤ L) (hz : zC M) (kend : ∀ M2 : zM, zC M2 → lW G p e s m below meth c b i 751 [] M2) : lW G p e s m below meth c b i 583 [] M := by
  obtain ⟨Q1, hc, hk⟩ := b_endsIn (G := G) (zr (xs (i + 1))) hz
  refine l_obj1 C dL_law_583 ?_
  refine l_arg C (d := 1) hi (by decide) dL_law_584 dL_law_585 dL_law_586 dL_law_587 dL_law_588 ?_
  refine l_call C mX4_endsIn hc rfl dL_law_589 lL_86 (by decide) rfl (Nat.le_of_ble_eq_true rfl) (by decide) rfl (by decide) rfl (fun v M1 q1 => ?_)
  obtain ⟨r, rfl, Q2, hm, hk2⟩ := hk v M1 q1
  refine l_obj2 C dL_law_592 ?_
  refine l_arg C (d := 1) hi (by decide) dL_law_593 dL_law_594 dL_law_595 dL_law_596 dL_law_597 ?_
  refine l_call C mX5_endsIn hm rfl dL_law_598 lL_89 (by decide) rfl (Nat.le_of_ble_eq_true rfl) (by decide) rfl (by decide) rfl (fun w M2 q2 => ?_)
  obtain ⟨rfl, hz2⟩ := hk2 w M2 q2
  exact l_eq C dL_law_601 (by decide) (kend M2 hz2)
theorem law_18 (C : lCx G p s m meth c b L xs) (hi : i + 4 ≤ L) (hz : zC M) (kend : ∀ M2 : zM, zC M2 → lW G p e s m below meth c b i 751 [] M2) : lW G p e s m below meth c b i 606 [] M := by
  obtain ⟨Q1, hc, hk⟩ := b_wayUp (G := G) (zr (xs (i + 1))) (zr (xs (i + 2))) (zr (xs (i + 3))) hz
  refine l_obj1 C dL_law_606 ?_
  refine l_arg C (d := 1) hi (by decide) dL_law_607 dL_law_608 dL_law_609 dL_law_610 dL_law_611 ?_
  refine l_arg C (d := 2) hi (by decide) dL_law_612 dL_law_613 dL_law_614 dL_law_615 dL_law_616 ?_
  refine l_arg C (d := 3) hi (by decide) dL_law_617 dL_law_618 dL_law_619 dL_law_620 dL_law_621 ?_
  refine l_call C mX4_wayUp hc rfl dL_law_622 lL_90 (by decide) rfl (Nat.le_of_ble_eq_true rfl) (by decide) rfl (by decide) rfl (fun v M1 q1 => ?_)
  obtain ⟨r, rfl, Q2, hm, hk2⟩ := hk v M1 q1
  refine l_obj2 C dL_law_625 ?_
  refine l_arg C (d := 1) hi (by decide) dL_law_626 dL_law_627 dL_law_628 dL_law_629 dL_law_630 ?_
  refine l_arg C (d := 2) hi (by decide) dL_law_631 dL_law_632 dL_law_633 dL_law_634 dL_law_635 ?_
  refine l_arg C (d := 3) hi (by decide) dL_law_636 dL_law_637 dL_law_638 dL_law_639 dL_law_640 ?_
  refine l_call C mX5_wayUp hm rfl dL_law_641 lL_93 (by decide) rfl (Nat.le_of_ble_eq_true rfl) (by decide) rfl (by decide) rfl (fun w M2 q2 => ?_)
  obtain ⟨rfl, hz2⟩ := hk2 w M2 q2
  exact l_eq C dL_law_644 (by decide) (kend M2 hz2)
theorem law_19 (C : lCx G p s m meth c b L xs) (hi : i + 4 ≤ L) (hz : zC M) (kend : ∀ M2 : zM, zC M2 → lW G p e s m below meth c b i 751 [] M2) : lW G p e s m below meth c b i 649 [] M := by
  obtain ⟨Q1, hc, hk⟩ := b_leader (G := G)  hz
  refine l_obj1 C dL_law_649 ?_
  refine l_call C mX4_leader hc rfl dL_law_650 lL_94 (by decide) rfl (Nat.le_of_ble_eq_true rfl) (by decide) rfl (by decide) rfl (fun v M1 q1 => ?_)
  obtain ⟨r, rfl, Q2, hm, hk2⟩ := hk v M1 q1
  refine l_obj2 C dL_law_653 ?_
  refine l_call C mX5_leader hm rfl dL_law_654 lL_97 (by decide) rfl (Nat.le_of_ble_eq_true rfl) (by decide) rfl (by decide) rfl (fun w M2 q2 => ?_)
  obtain ⟨rfl, hz2⟩ := hk2 w M2 q2
  exact l_eq C dL_law_657 (by decide) (kend M2 hz2)
theorem law_20 (C : lCx G p s m meth c b L xs) (hi : i + 4 ≤ L) (hz : zC M) (kend : ∀ M2 : zM, zC M2 → lW G p e s m below meth c b i 751 [] M2) : lW G p e s m below meth c b i 662 [] M := by
  obtain ⟨Q1, hc, hk⟩ := b_owes (G := G) (zr (xs (i + 1))) (zr (xs (i + 2))) hz
  refine l_obj1 C dL_law_662 ?_
  refine l_arg C (d := 1) hi (by decide) dL_law_663 dL_law_664 dL_law_665 dL_law_666 dL_law_667 ?_
  refine l_arg C (d := 2) hi (by decide) dL_law_668 dL_law_669 dL_law_670 dL_law_671 dL_law_672 ?_
  refine l_call C mX4_owes hc rfl dL_law_673 lL_98 (by decide) rfl (Nat.le_of_ble_eq_true rfl) (by decide) rfl (by decide) rfl (fun v M1 q1 => ?_)
  obtain ⟨r, rfl, Q2, hm, hk2⟩ := hk v M1 q1
  refine l_obj2 C dL_law_676 ?_
  refine l_arg C (d := 1) hi (by decide) dL_law_677 dL_law_678 dL_law_679 dL_law_680 dL_law_681 ?_
  refine l_arg C (d := 2) hi (by decide) dL_law_682 dL_law_683 dL_law_684 dL_law_685 dL_law_686 ?_
  refine l_call C mX5_owes hm rfl dL_law_687 lL_101 (by decide) rfl (Nat.le_of_ble_eq_true rfl) (by decide) rfl (by decide) rfl (fun w M2 q2 => ?_)
  obtain ⟨rfl, hz2⟩ := hk2 w M2 q2
  exact l_eq C dL_law_690 (by decide) (kend M2 hz2)
theorem law_21 (C : lCx G p s m meth c b L xs) (hi : i + 4 ≤ L) (hz : zC M) (kend : ∀ M2 : zM, zC M2 → lW G p e s m below meth c b i 751 [] M2) : lW G p e s m below meth c b i 695 [] M := by
  obtain ⟨Q1, hc, hk⟩ := b_bestLane (G := G) (zr (xs (i + 1))) (zr (xs (i + 2))) hz
  refine l_obj1 C dL_law_695 ?_
  refine l_arg C (d := 1) hi (by decide) dL_law_696 dL_law_697 dL_law_698 dL_law_699 dL_law_700 ?_
  refine l_arg C (d := 2) hi (by decide) dL_law_701 dL_law_702 dL_law_703 dL_law_704 dL_law_705 ?_
  refine l_call C mX4_bestLane hc rfl dL_law_706 lL_102 (by decide) rfl (Nat.le_of_ble_eq_true rfl) (by decide) rfl (by decide) rfl (fun v M1 q1 => ?_)
  obtain ⟨r, rfl, Q2, hm, hk2⟩ := hk v M1 q1
  refine l_obj2 C dL_law_709 ?_
  refine l_arg C (d := 1) hi (by decide) dL_law_710 dL_law_711 dL_law_712 dL_law_713 dL_law_714 ?_
  refine l_arg C (d := 2) hi (by decide) dL_law_715 dL_law_716 dL_law_717 dL_law_718 dL_law_719 ?_
  refine l_call C mX5_bestLane hm rfl dL_law_720 lL_105 (by decide) rfl (Nat.le_of_ble_eq_true rfl) (by decide) rfl (by decide) rfl (fun w M2 q2 => ?_)
  obtain ⟨rfl, hz2⟩ := hk2 w M2 q2
  exact l_eq C dL_law_723 (by decide) (kend M2 hz2)
theorem law_22 (C : lCx G p s m meth c b L xs) (hi : i + 4 ≤ L) (hz : zC M) (kend : ∀ M2 : zM, zC M2 → lW G p e s m below meth c b i 751 [] M2) : lW G p e s m below meth c b i 728 [] M := by
  obtain ⟨Q1, hc, hk⟩ := b_count (G := G) (zr (xs (i + 1))) hz
  refine l_obj1 C dL_law_728 ?_
  refine l_arg C (d := 1) hi (by decide) dL_law_729 dL_law_730 dL_law_731 dL_law_732 dL_law_733 ?_
  refine l_call C mX4_count hc rfl dL_law_734 lL_106 (by decide) rfl (Nat.le_of_ble_eq_true rfl) (by decide) rfl (by decide) rfl (fun v M1 q1 => ?_)
  obtain ⟨r, rfl, Q2, hm, hk2⟩ := hk v M1 q1
  refine l_obj2 C dL_law_737 ?_
  refine l_arg C (d := 1) hi (by decide) dL_law_738 dL_law_739 dL_law_740 dL_law_741 dL_law_742 ?_
  refine l_call C mX5_count hm rfl dL_law_743 lL_109 (by decide) rfl (Nat.le_of_ble_eq_true rfl) (by decide) rfl (by decide) rfl (fun w M2 q2 => ?_)
  obtain ⟨rfl, hz2⟩ := hk2 w M2 q2
  exact l_eq C dL_law_746 (by decide) (kend M2 hz2)
theorem law_off (j : Nat) (hj : j < 23) : ∃ (off : Int) (t : Nat), (#[108, 141, 164, 207, 240, 263, 288, 301, 314, 337, 350, 363, 376, 409, 452, 485, 508, 551, 574, 617, 630, 663, 696] : Array Int)[j]? = some off ∧ ((26 + 6 : Nat) : Int) + off = (t : Int) := by
  rcases (show j = 0 ∨ j = 1 ∨ j = 2 ∨ j = 3 ∨ j = 4 ∨ j = 5 ∨ j = 6 ∨ j = 7 ∨ j = 8 ∨ j = 9 ∨ j = 10 ∨ j = 11 ∨ j = 12 ∨ j = 13 ∨ j = 14 ∨ j = 15 ∨ j = 16 ∨ j = 17 ∨ j = 18 ∨ j = 19 ∨ j = 20 ∨ j = 21 ∨ j = 22 by omega) with rfl | rfl | rfl | rfl | rfl | rfl | rfl | rfl | rfl | rfl | rfl | rfl | rfl | rfl | rfl | rfl | rfl | rfl | rfl | rfl | rfl | rfl | rfl
  · exact ⟨108, 140, rfl, by decide⟩
  · exact ⟨141, 173, rfl, by decide⟩
  · exact ⟨164, 196, rfl, by decide⟩
  · exact ⟨207, 239, rfl, by decide⟩
  · exact ⟨240, 272, rfl, by decide⟩
  · exact ⟨263, 295, rfl, by decide⟩
  · exact ⟨288, 320, rfl, by decide⟩
  · exact ⟨301, 333, rfl, by decide⟩
  · exact ⟨314, 346, rfl, by decide⟩
  · exact ⟨337, 369, rfl, by decide⟩
  · exact ⟨350, 382, rfl, by decide⟩
  · exact ⟨363, 395, rfl, by decide⟩
  · exact ⟨376, 408, rfl, by decide⟩
  · exact ⟨409, 441, rfl, by decide⟩
  · exact ⟨452, 484, rfl, by decide⟩
  · exact ⟨485, 517, rfl, by decide⟩
  · exact ⟨508, 540, rfl, by decide⟩
  · exact ⟨551, 583, rfl, by decide⟩
  · exact ⟨574, 606, rfl, by decide⟩
  · exact ⟨617, 649, rfl, by decide⟩
  · exact ⟨630, 662, rfl, by decide⟩
  · exact ⟨663, 695, rfl, by decide⟩
  · exact ⟨696, 728, rfl, by decide⟩
theorem law_loop (C : lCx G p s m meth c b L xs) : ∀ (n i : Nat) (M : zM), L + 4 < i + n → i ≤ L + 4 → zC M → lW G p e s m below meth c b i 18 [] M := by
  intro n
  induction n with
  | zero =>
    intro i M h1 h2
    exact absurd h1 (by omega)
  | succ n ih =>
    intro i M h1 h2 hz
    have hL := C.2.1
    refine l_head C dL_law_18 dL_law_19 dL_law_20 dL_law_21 dL_law_22 dL_law_23 (tgt := 757) (by decide) (by omega) (fun _ => ?_) (fun hi => ?_)
    · exact l_end C dL_law_757 dL_law_758
    · have kend : ∀ M2 : zM, zC M2 → lW G p e s m below meth c b i 751 [] M2 := fun M2 hz2 => l_next C dL_law_751 dL_law_754 (tgt := 18) (by decide) (ih (i + 4) M2 (by omega) (by omega) hz2)
      refine l_choose C (tgt := 751) hi dL_law_26 dL_law_27 dL_law_28 dL_law_29 dL_law_31 dL_law_32 (by decide) (fun j hj off t ho ht => ?_) (kend M hz) law_off
      rcases (show j = 0 ∨ j = 1 ∨ j = 2 ∨ j = 3 ∨ j = 4 ∨ j = 5 ∨ j = 6 ∨ j = 7 ∨ j = 8 ∨ j = 9 ∨ j = 10 ∨ j = 11 ∨ j = 12 ∨ j = 13 ∨ j = 14 ∨ j = 15 ∨ j = 16 ∨ j = 17 ∨ j = 18 ∨ j = 19 ∨ j = 20 ∨ j = 21 ∨ j = 22 by omega) with rfl | rfl | rfl | rfl | rfl | rfl | rfl | rfl | rfl | rfl | rfl | rfl | rfl | rfl | rfl | rfl | rfl | rfl | rfl | rfl | rfl | rfl | rfl
      · have e1 : (108 : Int) = off := Option.some.inj ho
        have e2 : t = 140 := by omega
        subst e2
        exact law_0 C hi hz kend
      · have e1 : (141 : Int) = off := Option.some.inj ho
        have e2 : t = 173 := by omega
        subst e2
        exact law_1 C hi hz kend
      · have e1 : (164 : Int) = off := Option.some.inj ho
        have e2 : t = 196 := by omega
        subst e2
        exact law_2 C hi hz kend
      · have e1 : (207 : Int) = off := Option.some.inj ho
        have e2 : t = 239 := by omega
        subst e2
        exact law_3 C hi hz kend
      · have e1 : (240 : Int) = off := Option.some.inj ho
        have e2 : t = 272 := by omega
        subst e2
        exact law_4 C hi hz kend
      · have e1 : (263 : Int) = off := Option.some.inj ho
        have e2 : t = 295 := by omega
        subst e2
        exact law_5 C hi hz kend
      · have e1 : (288 : Int) = off := Option.some.inj ho
        have e2 : t = 320 := by omega
        subst e2
        exact law_6 C hi hz kend
      · have e1 : (301 : Int) = off := Option.some.inj ho
        have e2 : t = 333 := by omega
        subst e2
        exact law_7 C hi hz kend
      · have e1 : (314 : Int) = off := Option.some.inj ho
        have e2 : t = 346 := by omega
        subst e2
        exact law_8 C hi hz kend
      · have e1 : (337 : Int) = off := Option.some.inj ho
        have e2 : t = 369 := by omega
        subst e2
        exact law_9 C hi hz kend
      · have e1 : (350 : Int) = off := Option.some.inj ho
        have e2 : t = 382 := by omega
        subst e2
        exact law_10 C hi hz kend
      · have e1 : (363 : Int) = off := Option.some.inj ho
        have e2 : t = 395 := by omega
        subst e2
        exact law_11 C hi hz kend
      · have e1 : (376 : Int) = off := Option.some.inj ho
        have e2 : t = 408 := by omega
        subst e2
        exact law_12 C hi hz kend
      · have e1 : (409 : Int) = off := Option.some.inj ho
        have e2 : t = 441 := by omega
        subst e2
        exact law_13 C hi hz kend
      · have e1 : (452 : Int) = off := Option.some.inj ho
        have e2 : t = 484 := by omega
        subst e2
        exact law_14 C hi hz kend
      · have e1 : (485 : Int) = off := Option.some.inj ho
        have e2 : t = 517 := by omega
        subst e2
        exact law_15 C hi hz kend
      · have e1 : (508 : Int) = off := Option.some.inj ho
        have e2 : t = 540 := by omega
        subst e2
        exact law_16 C hi hz kend
      · have e1 : (551 : Int) = off := Option.some.inj ho
        have e2 : t = 583 := by omega
        subst e2
        exact law_17 C hi hz kend
      · have e1 : (574 : Int) = off := Option.some.inj ho
        have e2 : t = 606 := by omega
        subst e2
        exact law_18 C hi hz kend
      · have e1 : (617 : Int) = off := Option.some.inj ho
        have e2 : t = 649 := by omega
        subst e2
        exact law_19 C hi hz kend
      · have e1 : (630 : Int) = off := Option.some.inj ho
        have e2 : t = 662 := by omega
        subst e2
        exact law_20 C hi hz kend
      · have e1 : (663 : Int) = off := Option.some.inj ho
        have e2 : t = 695 := by omega
        subst e2
        exact law_21 C hi hz kend
      · have e1 : (696 : Int) = off := Option.some.inj ho
        have e2 : t = 728 := by omega
        subst e2
        exact law_22 C hi hz kend
end LC
