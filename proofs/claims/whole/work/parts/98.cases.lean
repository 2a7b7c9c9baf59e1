theorem EM_at {ν : Mem} {a g : Int} : EM ν (atM ν a g) := by
  refine ⟨fun q hq => ?_, fun j hj => ?_⟩
  · have h0 : q ≠ 0 := by omega
    unfold atM
    simp [h0]
  · rcases hj with rfl | rfl | rfl | rfl | rfl | rfl <;> rfl
section LAWC
variable {p : Program} {l : Launch} {e : Env} {s : State} {m : MethodId} {below : List Frame} {meth : Method} {c : Code} {b N : Nat} {xs : Nat → Int32} {D : va_G} {cs : Nat → ClassId} {aC aM : Nat → Nat} {i : Int} {μ ν : Mem}
set_option maxHeartbeats 1000000 in
theorem lc_0 (F : LwF p s m meth c b N xs D cs aC aM) (h : RLN (81 * i) μ ν) (hi : 0 ≤ i ∧ i + 5 < N) (kx : ∀ μ' ν', RLN (81 * i + 81) μ' ν' → LwP p l e s m below meth c b D cs aC aM i 1051 [] μ' ν') : LwP p l e s m below meth c b D cs aC aM i 156 [] μ ν := by
  have hN3 := F.2.1
  have hn : 81 * i < 2147483648 := by omega
  refine L_a1 F dL_law_156 ?_
  refine L_rd F dL_law_157 dL_law_158 dL_law_159 dL_law_160 dL_law_161 (by omega) (by omega) ?_
  refine L_rd F dL_law_162 dL_law_163 dL_law_164 dL_law_165 dL_law_166 (by omega) (by omega) ?_
  refine L_bool F (sx_in _ _) dL_law_167 dL_law_170 dL_law_171 dL_law_174 ?_
  refine L_rd F dL_law_175 dL_law_176 dL_law_177 dL_law_178 dL_law_179 (by omega) (by omega) ?_
  refine L_bool F (sx_in _ _) dL_law_180 dL_law_183 dL_law_184 dL_law_187 ?_
  refine L_callC (Y' := mX5_thing) (as := [_, _, _]) F dL_law_188 rfl rfl ml_RL_13 im_X5_thing se_X5_thing mk_X5_thing (Nat.le_of_ble_eq_true rfl) (Nat.le_of_ble_eq_true rfl) rfl (c_X5_thing h hn (sx_in _ _) (bz_in _) (bz_in _)) (fun z μ1 hq => ?_)
  obtain ⟨hz, hR⟩ := hq
  refine L_a2 F dL_law_191 ?_
  refine L_rd F dL_law_192 dL_law_193 dL_law_194 dL_law_195 dL_law_196 (by omega) (by omega) ?_
  refine L_rd F dL_law_197 dL_law_198 dL_law_199 dL_law_200 dL_law_201 (by omega) (by omega) ?_
  refine L_bool F (sx_in _ _) dL_law_202 dL_law_205 dL_law_206 dL_law_209 ?_
  refine L_rd F dL_law_210 dL_law_211 dL_law_212 dL_law_213 dL_law_214 (by omega) (by omega) ?_
  refine L_bool F (sx_in _ _) dL_law_215 dL_law_218 dL_law_219 dL_law_222 ?_
  refine L_callM (Y' := mX6_thing) (as := [_, _, _]) F dL_law_223 rfl rfl ml_RL_17 im_X6_thing se_X6_thing mk_X6_thing (Nat.le_of_ble_eq_true rfl) (Nat.le_of_ble_eq_true rfl) rfl (c_X6_thing (RL_6 h).2 h.1.1.1.2.2.1 (sx_in _ _) (bz_in _) (bz_in _)) (fun z2 ν1 hq => ?_)
  obtain ⟨hz2, hP⟩ := hq
  refine L_eq (tgt := 1051) F dL_law_226 (by decide) (hz.trans hz2.symm) ?_
  rw [hP]
  exact kx _ _ (RL_mono hR (by omega))
set_option maxHeartbeats 1000000 in
theorem lc_1 (F : LwF p s m meth c b N xs D cs aC aM) (h : RLN (81 * i) μ ν) (hi : 0 ≤ i ∧ i + 5 < N) (kx : ∀ μ' ν', RLN (81 * i + 81) μ' ν' → LwP p l e s m below meth c b D cs aC aM i 1051 [] μ' ν') : LwP p l e s m below meth c b D cs aC aM i 231 [] μ ν := by
  have hN3 := F.2.1
  have hn : 81 * i < 2147483648 := by omega
  refine L_a1 F dL_law_231 ?_
  refine L_rd F dL_law_232 dL_law_233 dL_law_234 dL_law_235 dL_law_236 (by omega) (by omega) ?_
  refine L_rd F dL_law_237 dL_law_238 dL_law_239 dL_law_240 dL_law_241 (by omega) (by omega) ?_
  refine L_rd F dL_law_242 dL_law_243 dL_law_244 dL_law_245 dL_law_246 (by omega) (by omega) ?_
  refine L_bool F (sx_in _ _) dL_law_247 dL_law_250 dL_law_251 dL_law_254 ?_
  refine L_callC (Y' := mX5_takes) (as := [_, _, _]) F dL_law_255 rfl rfl ml_RL_18 im_X5_takes se_X5_takes mk_X5_takes (Nat.le_of_ble_eq_true rfl) (Nat.le_of_ble_eq_true rfl) rfl (c_X5_takes h hn (sx_in _ _) (sx_in _ _) (bz_in _)) (fun z μ1 hq => ?_)
  obtain ⟨hz, hR⟩ := hq
  refine L_a2 F dL_law_258 ?_
  refine L_rd F dL_law_259 dL_law_260 dL_law_261 dL_law_262 dL_law_263 (by omega) (by omega) ?_
  refine L_rd F dL_law_264 dL_law_265 dL_law_266 dL_law_267 dL_law_268 (by omega) (by omega) ?_
  refine L_rd F dL_law_269 dL_law_270 dL_law_271 dL_law_272 dL_law_273 (by omega) (by omega) ?_
  refine L_bool F (sx_in _ _) dL_law_274 dL_law_277 dL_law_278 dL_law_281 ?_
  refine L_callM (Y' := mX6_takes) (as := [_, _, _]) F dL_law_282 rfl rfl ml_RL_22 im_X6_takes se_X6_takes mk_X6_takes (Nat.le_of_ble_eq_true rfl) (Nat.le_of_ble_eq_true rfl) rfl (c_X6_takes  (sx_in _ _) (sx_in _ _) (bz_in _)) (fun z2 ν1 hq => ?_)
  obtain ⟨hz2, hP⟩ := hq
  refine L_eq (tgt := 1051) F dL_law_285 (by decide) (hz.trans hz2.symm) ?_
  rw [hP]
  exact kx _ _ (RL_mono hR (by omega))
set_option maxHeartbeats 1000000 in
theorem lc_2 (F : LwF p s m meth c b N xs D cs aC aM) (h : RLN (81 * i) μ ν) (hi : 0 ≤ i ∧ i + 5 < N) (kx : ∀ μ' ν', RLN (81 * i + 81) μ' ν' → LwP p l e s m below meth c b D cs aC aM i 1051 [] μ' ν') : LwP p l e s m below meth c b D cs aC aM i 290 [] μ ν := by
  have hN3 := F.2.1
  have hn : 81 * i < 2147483648 := by omega
  refine L_a1 F dL_law_290 ?_
  refine L_rd F dL_law_291 dL_law_292 dL_law_293 dL_law_294 dL_law_295 (by omega) (by omega) ?_
  refine L_rd F dL_law_296 dL_law_297 dL_law_298 dL_law_299 dL_law_300 (by omega) (by omega) ?_
  refine L_callC (Y' := mX5_law) (as := [_, _]) F dL_law_301 rfl rfl ml_RL_23 im_X5_law se_X5_law mk_X5_law (Nat.le_of_ble_eq_true rfl) (Nat.le_of_ble_eq_true rfl) rfl (c_X5_law h hn (sx_in _ _) (sx_in _ _)) (fun z μ1 hq => ?_)
  obtain ⟨hz, hR⟩ := hq
  refine L_a2 F dL_law_304 ?_
  refine L_rd F dL_law_305 dL_law_306 dL_law_307 dL_law_308 dL_law_309 (by omega) (by omega) ?_
  refine L_rd F dL_law_310 dL_law_311 dL_law_312 dL_law_313 dL_law_314 (by omega) (by omega) ?_
  refine L_callM (Y' := mX6_law) (as := [_, _]) F dL_law_315 rfl rfl ml_RL_27 im_X6_law se_X6_law mk_X6_law (Nat.le_of_ble_eq_true rfl) (Nat.le_of_ble_eq_true rfl) rfl (c_X6_law  (sx_in _ _) (sx_in _ _)) (fun z2 ν1 hq => ?_)
  obtain ⟨hz2, hP⟩ := hq
  refine L_eq (tgt := 1051) F dL_law_318 (by decide) (hz.trans hz2.symm) ?_
  rw [hP]
  exact kx _ _ (RL_mono hR (by omega))
set_option maxHeartbeats 1000000 in
theorem lc_3 (F : LwF p s m meth c b N xs D cs aC aM) (h : RLN (81 * i) μ ν) (hi : 0 ≤ i ∧ i + 5 < N) (kx : ∀ μ' ν', RLN (81 * i + 81) μ' ν' → LwP p l e s m below meth c b D cs aC aM i 1051 [] μ' ν') : LwP p l e s m below meth c b D cs aC aM i 323 [] μ ν := by
  have hN3 := F.2.1
  have hn : 81 * i < 2147483648 := by omega
  refine L_a1 F dL_law_323 ?_
  refine L_rd F dL_law_324 dL_law_325 dL_law_326 dL_law_327 dL_law_328 (by omega) (by omega) ?_
  refine L_rd F dL_law_329 dL_law_330 dL_law_331 dL_law_332 dL_law_333 (by omega) (by omega) ?_
  refine L_rd F dL_law_334 dL_law_335 dL_law_336 dL_law_337 dL_law_338 (by omega) (by omega) ?_
  refine L_rd F dL_law_339 dL_law_340 dL_law_341 dL_law_342 dL_law_343 (by omega) (by omega) ?_
  refine L_rd F dL_law_344 dL_law_345 dL_law_346 dL_law_347 dL_law_348 (by omega) (by omega) ?_
  refine L_callC (Y' := mX5_event) (as := [_, _, _, _, _]) F dL_law_349 rfl rfl ml_RL_28 im_X5_event se_X5_event mk_X5_event (Nat.le_of_ble_eq_true rfl) (Nat.le_of_ble_eq_true rfl) rfl (c_X5_event h hn (sx_in _ _) (sx_in _ _) (sx_in _ _) (sx_in _ _) (sx_in _ _)) (fun z μ1 hq => ?_)
  obtain ⟨hz, hR⟩ := hq
  refine L_a2 F dL_law_352 ?_
  refine L_rd F dL_law_353 dL_law_354 dL_law_355 dL_law_356 dL_law_357 (by omega) (by omega) ?_
  refine L_rd F dL_law_358 dL_law_359 dL_law_360 dL_law_361 dL_law_362 (by omega) (by omega) ?_
  refine L_rd F dL_law_363 dL_law_364 dL_law_365 dL_law_366 dL_law_367 (by omega) (by omega) ?_
  refine L_rd F dL_law_368 dL_law_369 dL_law_370 dL_law_371 dL_law_372 (by omega) (by omega) ?_
  refine L_rd F dL_law_373 dL_law_374 dL_law_375 dL_law_376 dL_law_377 (by omega) (by omega) ?_
  refine L_callM (Y' := mX6_event) (as := [_, _, _, _, _]) F dL_law_378 rfl rfl ml_RL_32 im_X6_event se_X6_event mk_X6_event (Nat.le_of_ble_eq_true rfl) (Nat.le_of_ble_eq_true rfl) rfl (c_X6_event (RL_6 h).2 (RL_7 h).2 (sx_in _ _) (sx_in _ _) (sx_in _ _) (sx_in _ _) (sx_in _ _)) (fun z2 ν1 hq => ?_)
  obtain ⟨hz2, hP⟩ := hq
  refine L_eq (tgt := 1051) F dL_law_381 (by decide) (hz.trans hz2.symm) ?_
  rw [hP]
  exact kx _ _ (RL_mono hR (by omega))
set_option maxHeartbeats 1000000 in
theorem lc_4 (F : LwF p s m meth c b N xs D cs aC aM) (h : RLN (81 * i) μ ν) (hi : 0 ≤ i ∧ i + 5 < N) (kx : ∀ μ' ν', RLN (81 * i + 81) μ' ν' → LwP p l e s m below meth c b D cs aC aM i 1051 [] μ' ν') : LwP p l e s m below meth c b D cs aC aM i 386 [] μ ν := by
  have hN3 := F.2.1
  have hn : 81 * i < 2147483648 := by omega
  refine L_a1 F dL_law_386 ?_
  refine L_rd F dL_law_387 dL_law_388 dL_law_389 dL_law_390 dL_law_391 (by omega) (by omega) ?_
  refine L_rd F dL_law_392 dL_law_393 dL_law_394 dL_law_395 dL_law_396 (by omega) (by omega) ?_
  refine L_callC (Y' := mX5_of) (as := [_, _]) F dL_law_397 rfl rfl ml_RL_33 im_X5_of se_X5_of mk_X5_of (Nat.le_of_ble_eq_true rfl) (Nat.le_of_ble_eq_true rfl) rfl (c_X5_of h hn (sx_in _ _) (sx_in _ _)) (fun z μ1 hq => ?_)
  obtain ⟨hz, hR⟩ := hq
  refine L_a2 F dL_law_400 ?_
  refine L_rd F dL_law_401 dL_law_402 dL_law_403 dL_law_404 dL_law_405 (by omega) (by omega) ?_
  refine L_rd F dL_law_406 dL_law_407 dL_law_408 dL_law_409 dL_law_410 (by omega) (by omega) ?_
  refine L_callM (Y' := mX6_of) (as := [_, _]) F dL_law_411 rfl rfl ml_RL_36 im_X6_of se_X6_of mk_X6_of (Nat.le_of_ble_eq_true rfl) (Nat.le_of_ble_eq_true rfl) rfl (c_X6_of (RL_7 h).2 (sx_in _ _) (sx_in _ _)) (fun z2 ν1 hq => ?_)
  obtain ⟨hz2, hP⟩ := hq
  refine L_eq (tgt := 1051) F dL_law_414 (by decide) (hz.trans hz2.symm) ?_
  rw [hP]
  exact kx _ _ (RL_mono hR (by omega))
set_option maxHeartbeats 1000000 in
theorem lc_5 (F : LwF p s m meth c b N xs D cs aC aM) (h : RLN (81 * i) μ ν) (hi : 0 ≤ i ∧ i + 5 < N) (kx : ∀ μ' ν', RLN (81 * i + 81) μ' ν' → LwP p l e s m below meth c b D cs aC aM i 1051 [] μ' ν') : LwP p l e s m below meth c b D cs aC aM i 419 [] μ ν := by
  have hN3 := F.2.1
  have hn : 81 * i < 2147483648 := by omega
  refine L_a1 F dL_law_419 ?_
  refine L_callC (Y' := mX5_takeBack) (as := []) F dL_law_420 rfl rfl ml_RL_37 im_X5_takeBack se_X5_takeBack mk_X5_takeBack (Nat.le_of_ble_eq_true rfl) (Nat.le_of_ble_eq_true rfl) rfl (c_X5_takeBack h hn ) (fun z μ1 hq => ?_)
  obtain ⟨hz, hR⟩ := hq
  refine L_a2 F dL_law_423 ?_
  refine L_callM (Y' := mX6_takeBack) (as := []) F dL_law_424 rfl rfl ml_RL_41 im_X6_takeBack se_X6_takeBack mk_X6_takeBack (Nat.le_of_ble_eq_true rfl) (Nat.le_of_ble_eq_true rfl) rfl (c_X6_takeBack (RL_7 h).2 ) (fun z2 ν1 hq => ?_)
  obtain ⟨hz2, hP⟩ := hq
  refine L_eq (tgt := 1051) F dL_law_427 (by decide) (hz.trans hz2.symm) ?_
  rw [hP]
  exact kx _ _ (RL_mono hR (by omega))
set_option maxHeartbeats 1000000 in
theorem lc_6 (F : LwF p s m meth c b N xs D cs aC aM) (h : RLN (81 * i) μ ν) (hi : 0 ≤ i ∧ i + 5 < N) (kx : ∀ μ' ν', RLN (81 * i + 81) μ' ν' → LwP p l e s m below meth c b D cs aC aM i 1051 [] μ' ν') : LwP p l e s m below meth c b D cs aC aM i 432 [] μ ν := by
  have hN3 := F.2.1
  have hn : 81 * i < 2147483648 := by omega
  refine L_a1 F dL_law_432 ?_
  refine L_rd F dL_law_433 dL_law_434 dL_law_435 dL_law_436 dL_law_437 (by omega) (by omega) ?_
  refine L_rd F dL_law_438 dL_law_439 dL_law_440 dL_law_441 dL_law_442 (by omega) (by omega) ?_
  refine L_i2l F dL_law_443 ?_
  refine L_bipush F dL_law_444 (by decide) ?_
  refine L_lshl F dL_law_446 (by decide) (by decide) ?_
  refine L_rd F dL_law_447 dL_law_448 dL_law_449 dL_law_450 dL_law_451 (by omega) (by omega) ?_
  refine L_i2l F dL_law_452 ?_
  refine L_ldc2 F dL_law_453 ?_
  refine L_land F dL_law_456 ?_
  refine L_lor F dL_law_457 ?_
  refine L_callC (Y' := mX5_feed) (as := [_, _]) F dL_law_458 rfl rfl ml_RL_44 im_X5_feed se_X5_feed mk_X5_feed (Nat.le_of_ble_eq_true rfl) (Nat.le_of_ble_eq_true rfl) rfl (c_X5_feed h hn (sx_in _ _) ) (fun z μ1 hq => ?_)
  obtain ⟨hz, hR⟩ := hq
  refine L_a2 F dL_law_461 ?_
  refine L_rd F dL_law_462 dL_law_463 dL_law_464 dL_law_465 dL_law_466 (by omega) (by omega) ?_
  refine L_rd F dL_law_467 dL_law_468 dL_law_469 dL_law_470 dL_law_471 (by omega) (by omega) ?_
  refine L_i2l F dL_law_472 ?_
  refine L_bipush F dL_law_473 (by decide) ?_
  refine L_lshl F dL_law_475 (by decide) (by decide) ?_
  refine L_rd F dL_law_476 dL_law_477 dL_law_478 dL_law_479 dL_law_480 (by omega) (by omega) ?_
  refine L_i2l F dL_law_481 ?_
  refine L_ldc2 F dL_law_482 ?_
  refine L_land F dL_law_485 ?_
  refine L_lor F dL_law_486 ?_
  refine L_callM (Y' := mX6_feed) (as := [_, _]) F dL_law_487 rfl rfl ml_RL_48 im_X6_feed se_X6_feed mk_X6_feed (Nat.le_of_ble_eq_true rfl) (Nat.le_of_ble_eq_true rfl) rfl (c_X6_feed h.2.1.1.2 (sx_in _ _) ) (fun z2 ν1 hq => ?_)
  obtain ⟨hz2, hP⟩ := hq
  refine L_eq (tgt := 1051) F dL_law_490 (by decide) (hz.trans hz2.symm) ?_
  rw [hP]
  exact kx _ _ (RL_mono hR (by omega))
set_option maxHeartbeats 1000000 in
theorem lc_7 (F : LwF p s m meth c b N xs D cs aC aM) (h : RLN (81 * i) μ ν) (hi : 0 ≤ i ∧ i + 5 < N) (kx : ∀ μ' ν', RLN (81 * i + 81) μ' ν' → LwP p l e s m below meth c b D cs aC aM i 1051 [] μ' ν') : LwP p l e s m below meth c b D cs aC aM i 495 [] μ ν := by
  have hN3 := F.2.1
  have hn : 81 * i < 2147483648 := by omega
  refine L_a1 F dL_law_495 ?_
  refine L_callC (Y' := mX5_house) (as := []) F dL_law_496 rfl rfl ml_RL_49 im_X5_house se_X5_house mk_X5_house (Nat.le_of_ble_eq_true rfl) (Nat.le_of_ble_eq_true rfl) rfl (c_X5_house h hn ) (fun z μ1 hq => ?_)
  obtain ⟨hz, hR⟩ := hq
  refine L_a2 F dL_law_499 ?_
  refine L_callM (Y' := mX6_house) (as := []) F dL_law_500 rfl rfl ml_RL_52 im_X6_house se_X6_house mk_X6_house (Nat.le_of_ble_eq_true rfl) (Nat.le_of_ble_eq_true rfl) rfl (c_X6_house (RL_HI h) ) (fun z2 ν1 hq => ?_)
  obtain ⟨hz2, hP⟩ := hq
  obtain ⟨a, g, hP⟩ := hP
  refine L_eq (tgt := 1051) F dL_law_503 (by decide) (hz.trans hz2.symm) ?_
  rw [hP]
  exact kx _ _ (RL_mono (RL_em hR EM_at) (by omega))
set_option maxHeartbeats 1000000 in
theorem lc_8 (F : LwF p s m meth c b N xs D cs aC aM) (h : RLN (81 * i) μ ν) (hi : 0 ≤ i ∧ i + 5 < N) (kx : ∀ μ' ν', RLN (81 * i + 81) μ' ν' → LwP p l e s m below meth c b D cs aC aM i 1051 [] μ' ν') : LwP p l e s m below meth c b D cs aC aM i 508 [] μ ν := by
  have hN3 := F.2.1
  have hn : 81 * i < 2147483648 := by omega
  refine L_a1 F dL_law_508 ?_
  refine L_rd F dL_law_509 dL_law_510 dL_law_511 dL_law_512 dL_law_513 (by omega) (by omega) ?_
  refine L_rd F dL_law_514 dL_law_515 dL_law_516 dL_law_517 dL_law_518 (by omega) (by omega) ?_
  refine L_rd F dL_law_519 dL_law_520 dL_law_521 dL_law_522 dL_law_523 (by omega) (by omega) ?_
  refine L_callC (Y' := mX5_state) (as := [_, _, _]) F dL_law_524 rfl rfl ml_RL_53 im_X5_state se_X5_state mk_X5_state (Nat.le_of_ble_eq_true rfl) (Nat.le_of_ble_eq_true rfl) rfl (c_X5_state h hn (sx_in _ _) (sx_in _ _) (sx_in _ _)) (fun z μ1 hq => ?_)
  obtain ⟨hz, hR⟩ := hq
  refine L_a2 F dL_law_527 ?_
  refine L_rd F dL_law_528 dL_law_529 dL_law_530 dL_law_531 dL_law_532 (by omega) (by omega) ?_
  refine L_rd F dL_law_533 dL_law_534 dL_law_535 dL_law_536 dL_law_537 (by omega) (by omega) ?_
  refine L_rd F dL_law_538 dL_law_539 dL_law_540 dL_law_541 dL_law_542 (by omega) (by omega) ?_
  refine L_callM (Y' := mX6_state) (as := [_, _, _]) F dL_law_543 rfl rfl ml_RL_57 im_X6_state se_X6_state mk_X6_state (Nat.le_of_ble_eq_true rfl) (Nat.le_of_ble_eq_true rfl) rfl (c_X6_state rfl h.1.1.1 (sx_in _ _) (sx_in _ _) (sx_in _ _)) (fun z2 ν1 hq => ?_)
  obtain ⟨hz2, hP⟩ := hq
  refine L_eq (tgt := 1051) F dL_law_546 (by decide) (hz.trans hz2.symm) ?_
  exact kx _ _ (RL_mono (RL_pmt hR (PM.t hP)) (by omega))
set_option maxHeartbeats 1000000 in
theorem lc_9 (F : LwF p s m meth c b N xs D cs aC aM) (h : RLN (81 * i) μ ν) (hi : 0 ≤ i ∧ i + 5 < N) (kx : ∀ μ' ν', RLN (81 * i + 81) μ' ν' → LwP p l e s m below meth c b D cs aC aM i 1051 [] μ' ν') : LwP p l e s m below meth c b D cs aC aM i 551 [] μ ν := by
  have hN3 := F.2.1
  have hn : 81 * i < 2147483648 := by omega
  refine L_a1 F dL_law_551 ?_
  refine L_rd F dL_law_552 dL_law_553 dL_law_554 dL_law_555 dL_law_556 (by omega) (by omega) ?_
  refine L_rd F dL_law_557 dL_law_558 dL_law_559 dL_law_560 dL_law_561 (by omega) (by omega) ?_
  refine L_callC (Y' := mX5_when) (as := [_, _]) F dL_law_562 rfl rfl ml_RL_58 im_X5_when se_X5_when mk_X5_when (Nat.le_of_ble_eq_true rfl) (Nat.le_of_ble_eq_true rfl) rfl (c_X5_when h hn (sx_in _ _) (sx_in _ _)) (fun z μ1 hq => ?_)
  obtain ⟨hz, hR⟩ := hq
  refine L_a2 F dL_law_565 ?_
  refine L_rd F dL_law_566 dL_law_567 dL_law_568 dL_law_569 dL_law_570 (by omega) (by omega) ?_
  refine L_rd F dL_law_571 dL_law_572 dL_law_573 dL_law_574 dL_law_575 (by omega) (by omega) ?_
  refine L_callM (Y' := mX6_when) (as := [_, _]) F dL_law_576 rfl rfl ml_RL_61 im_X6_when se_X6_when mk_X6_when (Nat.le_of_ble_eq_true rfl) (Nat.le_of_ble_eq_true rfl) rfl (c_X6_when rfl h.1.1.1 (sx_in _ _) (sx_in _ _)) (fun z2 ν1 hq => ?_)
  obtain ⟨hz2, hP⟩ := hq
  refine L_eq (tgt := 1051) F dL_law_579 (by decide) (hz.trans hz2.symm) ?_
  exact kx _ _ (RL_mono (RL_pmt hR (PM.t hP)) (by omega))
set_option maxHeartbeats 1000000 in
theorem lc_10 (F : LwF p s m meth c b N xs D cs aC aM) (h : RLN (81 * i) μ ν) (hi : 0 ≤ i ∧ i + 5 < N) (kx : ∀ μ' ν', RLN (81 * i + 81) μ' ν' → LwP p l e s m below meth c b D cs aC aM i 1051 [] μ' ν') : LwP p l e s m below meth c b D cs aC aM i 584 [] μ ν := by
  have hN3 := F.2.1
  have hn : 81 * i < 2147483648 := by omega
  refine L_a1 F dL_law_584 ?_
  refine L_rd F dL_law_585 dL_law_586 dL_law_587 dL_law_588 dL_law_589 (by omega) (by omega) ?_
  refine L_callC (Y' := mX5_ways) (as := [_]) F dL_law_590 rfl rfl ml_RL_62 im_X5_ways se_X5_ways mk_X5_ways (Nat.le_of_ble_eq_true rfl) (Nat.le_of_ble_eq_true rfl) rfl (c_X5_ways h hn (sx_in _ _)) (fun z μ1 hq => ?_)
  obtain ⟨hz, hR⟩ := hq
  refine L_a2 F dL_law_593 ?_
  refine L_rd F dL_law_594 dL_law_595 dL_law_596 dL_law_597 dL_law_598 (by omega) (by omega) ?_
  refine L_callM (Y' := mX6_ways) (as := [_]) F dL_law_599 rfl rfl ml_RL_66 im_X6_ways se_X6_ways mk_X6_ways (Nat.le_of_ble_eq_true rfl) (Nat.le_of_ble_eq_true rfl) rfl (c_X6_ways rfl h.1.1.1 h.1.2.1 (sx_in _ _)) (fun z2 ν1 hq => ?_)
  obtain ⟨hz2, hP⟩ := hq
  refine L_eq (tgt := 1051) F dL_law_602 (by decide) (hz.trans hz2.symm) ?_
  exact kx _ _ (RL_mono (RL_pmt hR (PM.t hP)) (by omega))
set_option maxHeartbeats 1000000 in
theorem lc_11 (F : LwF p s m meth c b N xs D cs aC aM) (h : RLN (81 * i) μ ν) (hi : 0 ≤ i ∧ i + 5 < N) (kx : ∀ μ' ν', RLN (81 * i + 81) μ' ν' → LwP p l e s m below meth c b D cs aC aM i 1051 [] μ' ν') : LwP p l e s m below meth c b D cs aC aM i 607 [] μ ν := by
  have hN3 := F.2.1
  have hn : 81 * i < 2147483648 := by omega
  refine L_a1 F dL_law_607 ?_
  refine L_rd F dL_law_608 dL_law_609 dL_law_610 dL_law_611 dL_law_612 (by omega) (by omega) ?_
  refine L_rd F dL_law_613 dL_law_614 dL_law_615 dL_law_616 dL_law_617 (by omega) (by omega) ?_
  refine L_rd F dL_law_618 dL_law_619 dL_law_620 dL_law_621 dL_law_622 (by omega) (by omega) ?_
  refine L_bool F (sx_in _ _) dL_law_623 dL_law_626 dL_law_627 dL_law_630 ?_
  refine L_callC (Y' := mX5_fact) (as := [_, _, _]) F dL_law_631 rfl rfl ml_RL_67 im_X5_fact se_X5_fact mk_X5_fact (Nat.le_of_ble_eq_true rfl) (Nat.le_of_ble_eq_true rfl) rfl (c_X5_fact h hn (sx_in _ _) (sx_in _ _) (bz_in _)) (fun z μ1 hq => ?_)
  obtain ⟨hz, hR⟩ := hq
  refine L_a2 F dL_law_634 ?_
  refine L_rd F dL_law_635 dL_law_636 dL_law_637 dL_law_638 dL_law_639 (by omega) (by omega) ?_
  refine L_rd F dL_law_640 dL_law_641 dL_law_642 dL_law_643 dL_law_644 (by omega) (by omega) ?_
  refine L_rd F dL_law_645 dL_law_646 dL_law_647 dL_law_648 dL_law_649 (by omega) (by omega) ?_
  refine L_bool F (sx_in _ _) dL_law_650 dL_law_653 dL_law_654 dL_law_657 ?_
  refine L_callM (Y' := mX6_fact) (as := [_, _, _]) F dL_law_658 rfl rfl ml_RL_70 im_X6_fact se_X6_fact mk_X6_fact (Nat.le_of_ble_eq_true rfl) (Nat.le_of_ble_eq_true rfl) rfl (c_X6_fact (RL_6 h).2 h.1.2.1.1 (sx_in _ _) (sx_in _ _) (bz_in _)) (fun z2 ν1 hq => ?_)
  obtain ⟨hz2, hP⟩ := hq
  refine L_eq (tgt := 1051) F dL_law_661 (by decide) (hz.trans hz2.symm) ?_
  rw [hP]
  exact kx _ _ (RL_mono hR (by omega))
set_option maxHeartbeats 1000000 in
theorem lc_12 (F : LwF p s m meth c b N xs D cs aC aM) (h : RLN (81 * i) μ ν) (hi : 0 ≤ i ∧ i + 5 < N) (kx : ∀ μ' ν', RLN (81 * i + 81) μ' ν' → LwP p l e s m below meth c b D cs aC aM i 1051 [] μ' ν') : LwP p l e s m below meth c b D cs aC aM i 666 [] μ ν := by
  have hN3 := F.2.1
  have hn : 81 * i < 2147483648 := by omega
  refine L_a1 F dL_law_666 ?_
  refine L_callC (Y' := mX5_forget) (as := []) F dL_law_667 rfl rfl ml_RL_71 im_X5_forget se_X5_forget mk_X5_forget (Nat.le_of_ble_eq_true rfl) (Nat.le_of_ble_eq_true rfl) rfl (c_X5_forget h hn ) (fun z μ1 hq => ?_)
  obtain ⟨hz, hR⟩ := hq
  refine L_a2 F dL_law_670 ?_
  refine L_callM (Y' := mX6_forget) (as := []) F dL_law_671 rfl rfl ml_RL_74 im_X6_forget se_X6_forget mk_X6_forget (Nat.le_of_ble_eq_true rfl) (Nat.le_of_ble_eq_true rfl) rfl (c_X6_forget  ) (fun z2 ν1 hq => ?_)
  obtain ⟨hz2, hP⟩ := hq
  refine L_eq (tgt := 1051) F dL_law_674 (by decide) (hz.trans hz2.symm) ?_
  rw [hP]
  exact kx _ _ (RL_mono hR (by omega))
set_option maxHeartbeats 1000000 in
theorem lc_13 (F : LwF p s m meth c b N xs D cs aC aM) (h : RLN (81 * i) μ ν) (hi : 0 ≤ i ∧ i + 5 < N) (kx : ∀ μ' ν', RLN (81 * i + 81) μ' ν' → LwP p l e s m below meth c b D cs aC aM i 1051 [] μ' ν') : LwP p l e s m below meth c b D cs aC aM i 679 [] μ ν := by
  have hN3 := F.2.1
  have hn : 81 * i < 2147483648 := by omega
  refine L_a1 F dL_law_679 ?_
  refine L_rd F dL_law_680 dL_law_681 dL_law_682 dL_law_683 dL_law_684 (by omega) (by omega) ?_
  refine L_rd F dL_law_685 dL_law_686 dL_law_687 dL_law_688 dL_law_689 (by omega) (by omega) ?_
  refine L_callC (Y' := mX5_sure) (as := [_, _]) F dL_law_690 rfl rfl ml_RL_75 im_X5_sure se_X5_sure mk_X5_sure (Nat.le_of_ble_eq_true rfl) (Nat.le_of_ble_eq_true rfl) rfl (c_X5_sure h hn (sx_in _ _) (sx_in _ _)) (fun z μ1 hq => ?_)
  obtain ⟨hz, hR⟩ := hq
  refine L_a2 F dL_law_693 ?_
  refine L_rd F dL_law_694 dL_law_695 dL_law_696 dL_law_697 dL_law_698 (by omega) (by omega) ?_
  refine L_rd F dL_law_699 dL_law_700 dL_law_701 dL_law_702 dL_law_703 (by omega) (by omega) ?_
  refine L_callM (Y' := mX6_sure) (as := [_, _]) F dL_law_704 rfl rfl ml_RL_78 im_X6_sure se_X6_sure mk_X6_sure (Nat.le_of_ble_eq_true rfl) (Nat.le_of_ble_eq_true rfl) rfl (c_X6_sure rfl h.1.1.1 h.1.2.1 (sx_in _ _) (sx_in _ _)) (fun z2 ν1 hq => ?_)
  obtain ⟨hz2, hP⟩ := hq
  refine L_eq (tgt := 1051) F dL_law_707 (by decide) (hz.trans hz2.symm) ?_
  exact kx _ _ (RL_mono (RL_pmt hR (PM.t hP)) (by omega))
set_option maxHeartbeats 1000000 in
theorem lc_14 (F : LwF p s m meth c b N xs D cs aC aM) (h : RLN (81 * i) μ ν) (hi : 0 ≤ i ∧ i + 5 < N) (kx : ∀ μ' ν', RLN (81 * i + 81) μ' ν' → LwP p l e s m below meth c b D cs aC aM i 1051 [] μ' ν') : LwP p l e s m below meth c b D cs aC aM i 712 [] μ ν := by
  have hN3 := F.2.1
  have hn : 81 * i < 2147483648 := by omega
  refine L_a1 F dL_law_712 ?_
  refine L_rd F dL_law_713 dL_law_714 dL_law_715 dL_law_716 dL_law_717 (by omega) (by omega) ?_
  refine L_rd F dL_law_718 dL_law_719 dL_law_720 dL_law_721 dL_law_722 (by omega) (by omega) ?_
  refine L_callC (Y' := mX5_many) (as := [_, _]) F dL_law_723 rfl rfl ml_RL_79 im_X5_many se_X5_many mk_X5_many (Nat.le_of_ble_eq_true rfl) (Nat.le_of_ble_eq_true rfl) rfl (c_X5_many h hn (sx_in _ _) (sx_in _ _)) (fun z μ1 hq => ?_)
  obtain ⟨hz, hR⟩ := hq
  refine L_a2 F dL_law_726 ?_
  refine L_rd F dL_law_727 dL_law_728 dL_law_729 dL_law_730 dL_law_731 (by omega) (by omega) ?_
  refine L_rd F dL_law_732 dL_law_733 dL_law_734 dL_law_735 dL_law_736 (by omega) (by omega) ?_
  refine L_callM (Y' := mX6_many) (as := [_, _]) F dL_law_737 rfl rfl ml_RL_82 im_X6_many se_X6_many mk_X6_many (Nat.le_of_ble_eq_true rfl) (Nat.le_of_ble_eq_true rfl) rfl (c_X6_many rfl h.1.1.1 h.1.2.1 (sx_in _ _) (sx_in _ _)) (fun z2 ν1 hq => ?_)
  obtain ⟨hz2, hP⟩ := hq
  refine L_eq (tgt := 1051) F dL_law_740 (by decide) (hz.trans hz2.symm) ?_
  exact kx _ _ (RL_mono (RL_pmt hR (PM.t hP)) (by omega))
set_option maxHeartbeats 1000000 in
theorem lc_15 (F : LwF p s m meth c b N xs D cs aC aM) (h : RLN (81 * i) μ ν) (hi : 0 ≤ i ∧ i + 5 < N) (kx : ∀ μ' ν', RLN (81 * i + 81) μ' ν' → LwP p l e s m below meth c b D cs aC aM i 1051 [] μ' ν') : LwP p l e s m below meth c b D cs aC aM i 745 [] μ ν := by
  have hN3 := F.2.1
  have hn : 81 * i < 2147483648 := by omega
  refine L_a1 F dL_law_745 ?_
  refine L_rd F dL_law_746 dL_law_747 dL_law_748 dL_law_749 dL_law_750 (by omega) (by omega) ?_
  refine L_rd F dL_law_751 dL_law_752 dL_law_753 dL_law_754 dL_law_755 (by omega) (by omega) ?_
  refine L_callC (Y' := mX5_judged) (as := [_, _]) F dL_law_756 rfl rfl ml_RL_83 im_X5_judged se_X5_judged mk_X5_judged (Nat.le_of_ble_eq_true rfl) (Nat.le_of_ble_eq_true rfl) rfl (c_X5_judged h hn (sx_in _ _) (sx_in _ _)) (fun z μ1 hq => ?_)
  obtain ⟨hz, hR⟩ := hq
  refine L_a2 F dL_law_759 ?_
  refine L_rd F dL_law_760 dL_law_761 dL_law_762 dL_law_763 dL_law_764 (by omega) (by omega) ?_
  refine L_rd F dL_law_765 dL_law_766 dL_law_767 dL_law_768 dL_law_769 (by omega) (by omega) ?_
  refine L_callM (Y' := mX6_judged) (as := [_, _]) F dL_law_770 rfl rfl ml_RL_86 im_X6_judged se_X6_judged mk_X6_judged (Nat.le_of_ble_eq_true rfl) (Nat.le_of_ble_eq_true rfl) rfl (c_X6_judged rfl h.1.1.1 h.1.2.1 h.1.1.2.2 (sx_in _ _) (sx_in _ _)) (fun z2 ν1 hq => ?_)
  obtain ⟨hz2, hP⟩ := hq
  refine L_eq (tgt := 1051) F dL_law_773 (by decide) (hz.trans hz2.symm) ?_
  exact kx _ _ (RL_mono (RL_pmt hR (PM.t hP)) (by omega))
set_option maxHeartbeats 1000000 in
theorem lc_16 (F : LwF p s m meth c b N xs D cs aC aM) (h : RLN (81 * i) μ ν) (hi : 0 ≤ i ∧ i + 5 < N) (kx : ∀ μ' ν', RLN (81 * i + 81) μ' ν' → LwP p l e s m below meth c b D cs aC aM i 1051 [] μ' ν') : LwP p l e s m below meth c b D cs aC aM i 778 [] μ ν := by
  have hN3 := F.2.1
  have hn : 81 * i < 2147483648 := by omega
  refine L_a1 F dL_law_778 ?_
  refine L_rd F dL_law_779 dL_law_780 dL_law_781 dL_law_782 dL_law_783 (by omega) (by omega) ?_
  refine L_callC (Y' := mX5_rivals) (as := [_]) F dL_law_784 rfl rfl ml_RL_87 im_X5_rivals se_X5_rivals mk_X5_rivals (Nat.le_of_ble_eq_true rfl) (Nat.le_of_ble_eq_true rfl) rfl (c_X5_rivals h hn (sx_in _ _)) (fun z μ1 hq => ?_)
  obtain ⟨hz, hR⟩ := hq
  refine L_a2 F dL_law_787 ?_
  refine L_rd F dL_law_788 dL_law_789 dL_law_790 dL_law_791 dL_law_792 (by omega) (by omega) ?_
  refine L_callM (Y' := mX6_rivals) (as := [_]) F dL_law_793 rfl rfl ml_RL_90 im_X6_rivals se_X6_rivals mk_X6_rivals (Nat.le_of_ble_eq_true rfl) (Nat.le_of_ble_eq_true rfl) rfl (c_X6_rivals rfl h.1.1.1 h.1.2.1 (sx_in _ _)) (fun z2 ν1 hq => ?_)
  obtain ⟨hz2, hP⟩ := hq
  refine L_eq (tgt := 1051) F dL_law_796 (by decide) (hz.trans hz2.symm) ?_
  exact kx _ _ (RL_mono (RL_pmt hR (PM.t hP)) (by omega))
set_option maxHeartbeats 1000000 in
theorem lc_17 (F : LwF p s m meth c b N xs D cs aC aM) (h : RLN (81 * i) μ ν) (hi : 0 ≤ i ∧ i + 5 < N) (kx : ∀ μ' ν', RLN (81 * i + 81) μ' ν' → LwP p l e s m below meth c b D cs aC aM i 1051 [] μ' ν') : LwP p l e s m below meth c b D cs aC aM i 801 [] μ ν := by
  have hN3 := F.2.1
  have hn : 81 * i < 2147483648 := by omega
  refine L_a1 F dL_law_801 ?_
  refine L_rd F dL_law_802 dL_law_803 dL_law_804 dL_law_805 dL_law_806 (by omega) (by omega) ?_
  refine L_rd F dL_law_807 dL_law_808 dL_law_809 dL_law_810 dL_law_811 (by omega) (by omega) ?_
  refine L_callC (Y' := mX5_question) (as := [_, _]) F dL_law_812 rfl rfl ml_RL_91 im_X5_question se_X5_question mk_X5_question (Nat.le_of_ble_eq_true rfl) (Nat.le_of_ble_eq_true rfl) rfl (c_X5_question h hn (sx_in _ _) (sx_in _ _)) (fun z μ1 hq => ?_)
  obtain ⟨hz, hR⟩ := hq
  refine L_a2 F dL_law_815 ?_
  refine L_rd F dL_law_816 dL_law_817 dL_law_818 dL_law_819 dL_law_820 (by omega) (by omega) ?_
  refine L_rd F dL_law_821 dL_law_822 dL_law_823 dL_law_824 dL_law_825 (by omega) (by omega) ?_
  refine L_callM (Y' := mX6_question) (as := [_, _]) F dL_law_826 rfl rfl ml_RL_94 im_X6_question se_X6_question mk_X6_question (Nat.le_of_ble_eq_true rfl) (Nat.le_of_ble_eq_true rfl) rfl (c_X6_question rfl h.1.1.1 h.1.2.1 (sx_in _ _) (sx_in _ _)) (fun z2 ν1 hq => ?_)
  obtain ⟨hz2, hP⟩ := hq
  refine L_eq (tgt := 1051) F dL_law_829 (by decide) (hz.trans hz2.symm) ?_
  exact kx _ _ (RL_mono (RL_pmt hR (PM.t hP)) (by omega))
set_option maxHeartbeats 1000000 in
theorem lc_18 (F : LwF p s m meth c b N xs D cs aC aM) (h : RLN (81 * i) μ ν) (hi : 0 ≤ i ∧ i + 5 < N) (kx : ∀ μ' ν', RLN (81 * i + 81) μ' ν' → LwP p l e s m below meth c b D cs aC aM i 1051 [] μ' ν') : LwP p l e s m below meth c b D cs aC aM i 834 [] μ ν := by
  have hN3 := F.2.1
  have hn : 81 * i < 2147483648 := by omega
  refine L_a1 F dL_law_834 ?_
  refine L_rd F dL_law_835 dL_law_836 dL_law_837 dL_law_838 dL_law_839 (by omega) (by omega) ?_
  refine L_rd F dL_law_840 dL_law_841 dL_law_842 dL_law_843 dL_law_844 (by omega) (by omega) ?_
  refine L_callC (Y' := mX5_sources) (as := [_, _]) F dL_law_845 rfl rfl ml_RL_95 im_X5_sources se_X5_sources mk_X5_sources (Nat.le_of_ble_eq_true rfl) (Nat.le_of_ble_eq_true rfl) rfl (c_X5_sources h hn (sx_in _ _) (sx_in _ _)) (fun z μ1 hq => ?_)
  obtain ⟨hz, hR⟩ := hq
  refine L_a2 F dL_law_848 ?_
  refine L_rd F dL_law_849 dL_law_850 dL_law_851 dL_law_852 dL_law_853 (by omega) (by omega) ?_
  refine L_rd F dL_law_854 dL_law_855 dL_law_856 dL_law_857 dL_law_858 (by omega) (by omega) ?_
  refine L_callM (Y' := mX6_sources) (as := [_, _]) F dL_law_859 rfl rfl ml_RL_98 im_X6_sources se_X6_sources mk_X6_sources (Nat.le_of_ble_eq_true rfl) (Nat.le_of_ble_eq_true rfl) rfl (c_X6_sources rfl h.1.1.1 h.1.2.1 (sx_in _ _) (sx_in _ _)) (fun z2 ν1 hq => ?_)
  obtain ⟨hz2, hP⟩ := hq
  refine L_eq (tgt := 1051) F dL_law_862 (by decide) (hz.trans hz2.symm) ?_
  exact kx _ _ (RL_mono (RL_pmt hR (PM.t hP)) (by omega))
set_option maxHeartbeats 1000000 in
theorem lc_19 (F : LwF p s m meth c b N xs D cs aC aM) (h : RLN (81 * i) μ ν) (hi : 0 ≤ i ∧ i + 5 < N) (kx : ∀ μ' ν', RLN (81 * i + 81) μ' ν' → LwP p l e s m below meth c b D cs aC aM i 1051 [] μ' ν') : LwP p l e s m below meth c b D cs aC aM i 867 [] μ ν := by
  have hN3 := F.2.1
  have hn : 81 * i < 2147483648 := by omega
  refine L_a1 F dL_law_867 ?_
  refine L_rd F dL_law_868 dL_law_869 dL_law_870 dL_law_871 dL_law_872 (by omega) (by omega) ?_
  refine L_rd F dL_law_873 dL_law_874 dL_law_875 dL_law_876 dL_law_877 (by omega) (by omega) ?_
  refine L_callC (Y' := mX5_washing) (as := [_, _]) F dL_law_878 rfl rfl ml_RL_99 im_X5_washing se_X5_washing mk_X5_washing (Nat.le_of_ble_eq_true rfl) (Nat.le_of_ble_eq_true rfl) rfl (c_X5_washing h hn (sx_in _ _) (sx_in _ _)) (fun z μ1 hq => ?_)
  obtain ⟨hz, hR⟩ := hq
  refine L_a2 F dL_law_881 ?_
  refine L_rd F dL_law_882 dL_law_883 dL_law_884 dL_law_885 dL_law_886 (by omega) (by omega) ?_
  refine L_rd F dL_law_887 dL_law_888 dL_law_889 dL_law_890 dL_law_891 (by omega) (by omega) ?_
  refine L_callM (Y' := mX6_washing) (as := [_, _]) F dL_law_892 rfl rfl ml_RL_102 im_X6_washing se_X6_washing mk_X6_washing (Nat.le_of_ble_eq_true rfl) (Nat.le_of_ble_eq_true rfl) rfl (c_X6_washing rfl h.1.1.1 h.1.2.1 (sx_in _ _) (sx_in _ _)) (fun z2 ν1 hq => ?_)
  obtain ⟨hz2, hP⟩ := hq
  refine L_eq (tgt := 1051) F dL_law_895 (by decide) (hz.trans hz2.symm) ?_
  exact kx _ _ (RL_mono (RL_pmt hR (PM.t hP)) (by omega))
set_option maxHeartbeats 1000000 in
theorem lc_20 (F : LwF p s m meth c b N xs D cs aC aM) (h : RLN (81 * i) μ ν) (hi : 0 ≤ i ∧ i + 5 < N) (kx : ∀ μ' ν', RLN (81 * i + 81) μ' ν' → LwP p l e s m below meth c b D cs aC aM i 1051 [] μ' ν') : LwP p l e s m below meth c b D cs aC aM i 900 [] μ ν := by
  have hN3 := F.2.1
  have hn : 81 * i < 2147483648 := by omega
  refine L_a1 F dL_law_900 ?_
  refine L_rd F dL_law_901 dL_law_902 dL_law_903 dL_law_904 dL_law_905 (by omega) (by omega) ?_
  refine L_rd F dL_law_906 dL_law_907 dL_law_908 dL_law_909 dL_law_910 (by omega) (by omega) ?_
  refine L_rd F dL_law_911 dL_law_912 dL_law_913 dL_law_914 dL_law_915 (by omega) (by omega) ?_
  refine L_callC (Y' := mX5_step) (as := [_, _, _]) F dL_law_916 rfl rfl ml_RL_103 im_X5_step se_X5_step mk_X5_step (Nat.le_of_ble_eq_true rfl) (Nat.le_of_ble_eq_true rfl) rfl (c_X5_step h hn (sx_in _ _) (sx_in _ _) (sx_in _ _)) (fun z μ1 hq => ?_)
  obtain ⟨hz, hR⟩ := hq
  refine L_a2 F dL_law_919 ?_
  refine L_rd F dL_law_920 dL_law_921 dL_law_922 dL_law_923 dL_law_924 (by omega) (by omega) ?_
  refine L_rd F dL_law_925 dL_law_926 dL_law_927 dL_law_928 dL_law_929 (by omega) (by omega) ?_
  refine L_rd F dL_law_930 dL_law_931 dL_law_932 dL_law_933 dL_law_934 (by omega) (by omega) ?_
  refine L_callM (Y' := mX6_step) (as := [_, _, _]) F dL_law_935 rfl rfl ml_RL_106 im_X6_step se_X6_step mk_X6_step (Nat.le_of_ble_eq_true rfl) (Nat.le_of_ble_eq_true rfl) rfl (c_X6_step (RL_6 h).2 h.1.2.2.1.1 (sx_in _ _) (sx_in _ _) (sx_in _ _)) (fun z2 ν1 hq => ?_)
  obtain ⟨hz2, hP⟩ := hq
  refine L_eq (tgt := 1051) F dL_law_938 (by decide) (hz.trans hz2.symm) ?_
  rw [hP]
  exact kx _ _ (RL_mono hR (by omega))
set_option maxHeartbeats 1000000 in
theorem lc_21 (F : LwF p s m meth c b N xs D cs aC aM) (h : RLN (81 * i) μ ν) (hi : 0 ≤ i ∧ i + 5 < N) (kx : ∀ μ' ν', RLN (81 * i + 81) μ' ν' → LwP p l e s m below meth c b D cs aC aM i 1051 [] μ' ν') : LwP p l e s m below meth c b D cs aC aM i 943 [] μ ν := by
  have hN3 := F.2.1
  have hn : 81 * i < 2147483648 := by omega
  refine L_a1 F dL_law_943 ?_
  refine L_callC (Y' := mX5_clear) (as := []) F dL_law_944 rfl rfl ml_RL_107 im_X5_clear se_X5_clear mk_X5_clear (Nat.le_of_ble_eq_true rfl) (Nat.le_of_ble_eq_true rfl) rfl (c_X5_clear h hn ) (fun z μ1 hq => ?_)
  obtain ⟨hz, hR⟩ := hq
  refine L_a2 F dL_law_947 ?_
  refine L_callM (Y' := mX6_clear) (as := []) F dL_law_948 rfl rfl ml_RL_110 im_X6_clear se_X6_clear mk_X6_clear (Nat.le_of_ble_eq_true rfl) (Nat.le_of_ble_eq_true rfl) rfl (c_X6_clear  ) (fun z2 ν1 hq => ?_)
  obtain ⟨hz2, hP⟩ := hq
  refine L_eq (tgt := 1051) F dL_law_951 (by decide) (hz.trans hz2.symm) ?_
  rw [hP]
  exact kx _ _ (RL_mono hR (by omega))
set_option maxHeartbeats 1000000 in
theorem lc_22 (F : LwF p s m meth c b N xs D cs aC aM) (h : RLN (81 * i) μ ν) (hi : 0 ≤ i ∧ i + 5 < N) (kx : ∀ μ' ν', RLN (81 * i + 81) μ' ν' → LwP p l e s m below meth c b D cs aC aM i 1051 [] μ' ν') : LwP p l e s m below meth c b D cs aC aM i 956 [] μ ν := by
  have hN3 := F.2.1
  have hn : 81 * i < 2147483648 := by omega
  refine L_a1 F dL_law_956 ?_
  refine L_rd F dL_law_957 dL_law_958 dL_law_959 dL_law_960 dL_law_961 (by omega) (by omega) ?_
  refine L_callC (Y' := mX5_cooking) (as := [_]) F dL_law_962 rfl rfl ml_RL_111 im_X5_cooking se_X5_cooking mk_X5_cooking (Nat.le_of_ble_eq_true rfl) (Nat.le_of_ble_eq_true rfl) rfl (c_X5_cooking h hn (sx_in _ _)) (fun z μ1 hq => ?_)
  obtain ⟨hz, hR⟩ := hq
  refine L_a2 F dL_law_965 ?_
  refine L_rd F dL_law_966 dL_law_967 dL_law_968 dL_law_969 dL_law_970 (by omega) (by omega) ?_
  refine L_callM (Y' := mX6_cooking) (as := [_]) F dL_law_971 rfl rfl ml_RL_114 im_X6_cooking se_X6_cooking mk_X6_cooking (Nat.le_of_ble_eq_true rfl) (Nat.le_of_ble_eq_true rfl) rfl (c_X6_cooking (s := (ν.1 0 37).toNat) rfl h.1.1.1 h.1.2.1 h.1.2.2.1 (by have := h.1.2.2.1.1; omega) (sx_in _ _)) (fun z2 ν1 hq => ?_)
  obtain ⟨hz2, hP⟩ := hq
  refine L_eq (tgt := 1051) F dL_law_974 (by decide) (hz.trans hz2.symm) ?_
  exact kx _ _ (RL_mono (RL_pmt hR hP) (by omega))
set_option maxHeartbeats 1000000 in
theorem lc_23 (F : LwF p s m meth c b N xs D cs aC aM) (h : RLN (81 * i) μ ν) (hi : 0 ≤ i ∧ i + 5 < N) (kx : ∀ μ' ν', RLN (81 * i + 81) μ' ν' → LwP p l e s m below meth c b D cs aC aM i 1051 [] μ' ν') : LwP p l e s m below meth c b D cs aC aM i 979 [] μ ν := by
  have hN3 := F.2.1
  have hn : 81 * i < 2147483648 := by omega
  refine L_a1 F dL_law_979 ?_
  refine L_rd F dL_law_980 dL_law_981 dL_law_982 dL_law_983 dL_law_984 (by omega) (by omega) ?_
  refine L_callC (Y' := mX5_beside) (as := [_]) F dL_law_985 rfl rfl ml_RL_115 im_X5_beside se_X5_beside mk_X5_beside (Nat.le_of_ble_eq_true rfl) (Nat.le_of_ble_eq_true rfl) rfl (c_X5_beside h hn (sx_in _ _)) (fun z μ1 hq => ?_)
  obtain ⟨hz, hR⟩ := hq
  refine L_a2 F dL_law_988 ?_
  refine L_rd F dL_law_989 dL_law_990 dL_law_991 dL_law_992 dL_law_993 (by omega) (by omega) ?_
  refine L_callM (Y' := mX6_beside) (as := [_]) F dL_law_994 rfl rfl ml_RL_118 im_X6_beside se_X6_beside mk_X6_beside (Nat.le_of_ble_eq_true rfl) (Nat.le_of_ble_eq_true rfl) rfl (c_X6_beside rfl h.1.1.1 h.1.2.1 (sx_in _ _)) (fun z2 ν1 hq => ?_)
  obtain ⟨hz2, hP⟩ := hq
  refine L_eq (tgt := 1051) F dL_law_997 (by decide) (hz.trans hz2.symm) ?_
  exact kx _ _ (RL_mono (RL_pmt hR hP) (by omega))
set_option maxHeartbeats 1000000 in
theorem lc_24 (F : LwF p s m meth c b N xs D cs aC aM) (h : RLN (81 * i) μ ν) (hi : 0 ≤ i ∧ i + 5 < N) (kx : ∀ μ' ν', RLN (81 * i + 81) μ' ν' → LwP p l e s m below meth c b D cs aC aM i 1051 [] μ' ν') : LwP p l e s m below meth c b D cs aC aM i 1002 [] μ ν := by
  have hN3 := F.2.1
  have hn : 81 * i < 2147483648 := by omega
  refine L_a1 F dL_law_1002 ?_
  refine L_callC (Y' := mX5_image) (as := []) F dL_law_1003 rfl rfl ml_RL_119 im_X5_image se_X5_image mk_X5_image (Nat.le_of_ble_eq_true rfl) (Nat.le_of_ble_eq_true rfl) rfl (c_X5_image h hn ) (fun z μ1 hq => ?_)
  obtain ⟨hz, hR⟩ := hq
  refine L_a2 F dL_law_1006 ?_
  refine L_callM (Y' := mX6_image) (as := []) F dL_law_1007 rfl rfl ml_RL_122 im_X6_image se_X6_image mk_X6_image (Nat.le_of_ble_eq_true rfl) (Nat.le_of_ble_eq_true rfl) rfl (c_X6_image  ) (fun z2 ν1 hq => ?_)
  obtain ⟨hz2, hP⟩ := hq
  refine L_eq (tgt := 1051) F dL_law_1010 (by decide) (hz.trans hz2.symm) ?_
  rw [hP]
  exact kx _ _ (RL_mono hR (by omega))
set_option maxHeartbeats 1000000 in
theorem lc_25 (F : LwF p s m meth c b N xs D cs aC aM) (h : RLN (81 * i) μ ν) (hi : 0 ≤ i ∧ i + 5 < N) (kx : ∀ μ' ν', RLN (81 * i + 81) μ' ν' → LwP p l e s m below meth c b D cs aC aM i 1051 [] μ' ν') : LwP p l e s m below meth c b D cs aC aM i 1015 [] μ ν := by
  have hN3 := F.2.1
  have hn : 81 * i < 2147483648 := by omega
  refine L_a1 F dL_law_1015 ?_
  refine L_callC (Y' := mX5_restore) (as := []) F dL_law_1016 rfl rfl ml_RL_123 im_X5_restore se_X5_restore mk_X5_restore (Nat.le_of_ble_eq_true rfl) (Nat.le_of_ble_eq_true rfl) rfl (c_X5_restore h hn ) (fun z μ1 hq => ?_)
  obtain ⟨hz, hR⟩ := hq
  refine L_a2 F dL_law_1019 ?_
  refine L_callM (Y' := mX6_restore) (as := []) F dL_law_1020 rfl rfl ml_RL_126 im_X6_restore se_X6_restore mk_X6_restore (Nat.le_of_ble_eq_true rfl) (Nat.le_of_ble_eq_true rfl) rfl (c_X6_restore h.2.2.2.1.1 ) (fun z2 ν1 hq => ?_)
  obtain ⟨hz2, hP⟩ := hq
  refine L_eq (tgt := 1051) F dL_law_1023 (by decide) (hz.trans hz2.symm) ?_
  rw [hP]
  exact kx _ _ (RL_mono hR (by omega))
set_option maxHeartbeats 1000000 in
theorem lc_26 (F : LwF p s m meth c b N xs D cs aC aM) (h : RLN (81 * i) μ ν) (hi : 0 ≤ i ∧ i + 5 < N) (kx : ∀ μ' ν', RLN (81 * i + 81) μ' ν' → LwP p l e s m below meth c b D cs aC aM i 1051 [] μ' ν') : LwP p l e s m below meth c b D cs aC aM i 1028 [] μ ν := by
  have hN3 := F.2.1
  have hn : 81 * i < 2147483648 := by omega
  refine L_a1 F dL_law_1028 ?_
  refine L_rd F dL_law_1029 dL_law_1030 dL_law_1031 dL_law_1032 dL_law_1033 (by omega) (by omega) ?_
  refine L_callC (Y' := mX5_count) (as := [_]) F dL_law_1034 rfl rfl ml_RL_127 im_X5_count se_X5_count mk_X5_count (Nat.le_of_ble_eq_true rfl) (Nat.le_of_ble_eq_true rfl) rfl (c_X5_count h hn (sx_in _ _)) (fun z μ1 hq => ?_)
  obtain ⟨hz, hR⟩ := hq
  refine L_a2 F dL_law_1037 ?_
  refine L_rd F dL_law_1038 dL_law_1039 dL_law_1040 dL_law_1041 dL_law_1042 (by omega) (by omega) ?_
  refine L_callM (Y' := mX6_count) (as := [_]) F dL_law_1043 rfl rfl ml_RL_130 im_X6_count se_X6_count mk_X6_count (Nat.le_of_ble_eq_true rfl) (Nat.le_of_ble_eq_true rfl) rfl (c_X6_count h.1.1.1 (sx_in _ _)) (fun z2 ν1 hq => ?_)
  obtain ⟨hz2, hP⟩ := hq
  refine L_eq (tgt := 1051) F dL_law_1046 (by decide) (hz.trans hz2.symm) ?_
  rw [hP]
  exact kx _ _ (RL_mono hR (by omega))
end LAWC
