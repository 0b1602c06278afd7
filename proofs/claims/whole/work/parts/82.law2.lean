theorem mR_at {N : Mem} : ∀ j, j < shR.length → mR N j = N (iR j) := by
  intro j hj
  have h1 : j < 20 := hj
  show N (69 + j) = N (iR j)
  unfold iR
  rw [if_pos h1]
theorem rc_both {M M1 M2 σ : Mem} (h : RC M1 σ) : RC (mgR (mgC M M1) M2) σ := rc_congr (fun c hc => by rw [mgR_C _ _ c hc, mgC_C _ _ c hc]) h
theorem rr_mg {M M1 σ : Mem} (h : RR (mR M) σ) : RR (mR (mgC M M1)) σ := by rw [mgC_R]; exact h
theorem rr_both {N M2 σ : Mem} (h : RR M2 σ) : RR (mR (mgR N M2)) σ := by rw [mgR_R]; exact h
theorem law_room {L : Nat} {xs : Nat → Int32} {i : Nat} {M σ : Mem} (hL : L ≤ 3072) (hi : i + 6 ≤ L) (hF : LI M σ) (hI2 : Inv (opRoom σ (xs (i + 1))).2) (k : ∀ M2 σ2, LI M2 σ2 → GL L xs 1450 (lsL i) [] M2) : GL L xs 232 (lsL i) [] M := by
  obtain ⟨hR, hR5, hI⟩ := hF
  refine L_aload_n dL_law_232 (i := 1) (x := 0) rfl rfl ?_
  refine L_arg 1 dL_law_233 dL_law_234 dL_law_235 dL_law_236 dL_law_237 rfl rfl (by omega) hL ?_
  refine L_callV (n := 1) mX4_room shC (fun j => j) (mgC M) 8 0 [.int (xs (i + 1))] [] (cl_room hR hI (fun _ _ h => h)) subCL (fun _ _ => rfl) (mrgCL M) vX4_room rfl (tb_1 179 (by decide +kernel)) (recC rfl) (by decide) (Nat.le_of_ble_eq_true rfl) dL_law_238 rfl ?_
  rintro _ M1 ⟨rfl, hR1⟩
  refine L_aload_n dL_law_241 (i := 2) (x := 69) rfl rfl ?_
  refine L_arg 1 dL_law_242 dL_law_243 dL_law_244 dL_law_245 dL_law_246 rfl rfl (by omega) hL ?_
  refine L_callV (n := 1) mX5_room shR iR (mgR (mgC M M1)) 8 0 [.int (xs (i + 1))] [.int (opRoom σ (xs (i + 1))).1] (rf_room (rr_mg hR5) hI (fun _ _ h => h)) subRL mR_at (mrgRL _) vX5_room rfl (tb_4 117 (by decide +kernel)) (recR rfl) (by decide) (Nat.le_of_ble_eq_true rfl) dL_law_247 rfl ?_
  rintro _ M2 ⟨rfl, hR2⟩
  refine L_icmp_eq dL_law_250 (tgt := 1450) (by decide) rfl ?_
  exact k _ _ ⟨rc_both hR1, rr_both hR2, hI2⟩
theorem law_of {L : Nat} {xs : Nat → Int32} {i : Nat} {M σ : Mem} (hL : L ≤ 3072) (hi : i + 6 ≤ L) (hF : LI M σ) (hI2 : Inv (opOf σ (xs (i + 1)) (xs (i + 2))).2) (k : ∀ M2 σ2, LI M2 σ2 → GL L xs 1450 (lsL i) [] M2) : GL L xs 255 (lsL i) [] M := by
  obtain ⟨hR, hR5, hI⟩ := hF
  refine L_aload_n dL_law_255 (i := 1) (x := 0) rfl rfl ?_
  refine L_arg 1 dL_law_256 dL_law_257 dL_law_258 dL_law_259 dL_law_260 rfl rfl (by omega) hL ?_
  refine L_arg 2 dL_law_261 dL_law_262 dL_law_263 dL_law_264 dL_law_265 rfl rfl (by omega) hL ?_
  refine L_callV (n := 2) mX4_of shC (fun j => j) (mgC M) 8 0 [.int (xs (i + 1)), .int (xs (i + 2))] [] (cl_of hR hI (fun _ _ h => h)) subCL (fun _ _ => rfl) (mrgCL M) vX4_of rfl (tb_1 196 (by decide +kernel)) (recC rfl) (by decide) (Nat.le_of_ble_eq_true rfl) dL_law_266 rfl ?_
  rintro _ M1 ⟨rfl, hR1⟩
  refine L_aload_n dL_law_269 (i := 2) (x := 69) rfl rfl ?_
  refine L_arg 1 dL_law_270 dL_law_271 dL_law_272 dL_law_273 dL_law_274 rfl rfl (by omega) hL ?_
  refine L_arg 2 dL_law_275 dL_law_276 dL_law_277 dL_law_278 dL_law_279 rfl rfl (by omega) hL ?_
  refine L_callV (n := 2) mX5_of shR iR (mgR (mgC M M1)) 8 0 [.int (xs (i + 1)), .int (xs (i + 2))] [.int (opOf σ (xs (i + 1)) (xs (i + 2))).1] (rf_of (rr_mg hR5) hI (fun _ _ h => h)) subRL mR_at (mrgRL _) vX5_of rfl (tb_4 140 (by decide +kernel)) (recR rfl) (by decide) (Nat.le_of_ble_eq_true rfl) dL_law_280 rfl ?_
  rintro _ M2 ⟨rfl, hR2⟩
  refine L_icmp_eq dL_law_283 (tgt := 1450) (by decide) rfl ?_
  exact k _ _ ⟨rc_both hR1, rr_both hR2, hI2⟩
theorem law_change {L : Nat} {xs : Nat → Int32} {i : Nat} {M σ : Mem} (hL : L ≤ 3072) (hi : i + 6 ≤ L) (hF : LI M σ) (hI2 : Inv (opChange σ (xs (i + 1)) (xs (i + 2)) (xs (i + 3))).2) (k : ∀ M2 σ2, LI M2 σ2 → GL L xs 1450 (lsL i) [] M2) : GL L xs 288 (lsL i) [] M := by
  obtain ⟨hR, hR5, hI⟩ := hF
  refine L_aload_n dL_law_288 (i := 1) (x := 0) rfl rfl ?_
  refine L_arg 1 dL_law_289 dL_law_290 dL_law_291 dL_law_292 dL_law_293 rfl rfl (by omega) hL ?_
  refine L_arg 2 dL_law_294 dL_law_295 dL_law_296 dL_law_297 dL_law_298 rfl rfl (by omega) hL ?_
  refine L_arg 3 dL_law_299 dL_law_300 dL_law_301 dL_law_302 dL_law_303 rfl rfl (by omega) hL ?_
  refine L_callV (n := 3) mX4_change shC (fun j => j) (mgC M) 8 0 [.int (xs (i + 1)), .int (xs (i + 2)), .int (xs (i + 3))] [] (cl_change hR hI (fun _ _ h => h)) subCL (fun _ _ => rfl) (mrgCL M) vX4_change rfl (tb_1 215 (by decide +kernel)) (recC rfl) (by decide) (Nat.le_of_ble_eq_true rfl) dL_law_304 rfl ?_
  rintro _ M1 ⟨rfl, hR1⟩
  refine L_aload_n dL_law_307 (i := 2) (x := 69) rfl rfl ?_
  refine L_arg 1 dL_law_308 dL_law_309 dL_law_310 dL_law_311 dL_law_312 rfl rfl (by omega) hL ?_
  refine L_arg 2 dL_law_313 dL_law_314 dL_law_315 dL_law_316 dL_law_317 rfl rfl (by omega) hL ?_
  refine L_arg 3 dL_law_318 dL_law_319 dL_law_320 dL_law_321 dL_law_322 rfl rfl (by omega) hL ?_
  refine L_callV (n := 3) mX5_change shR iR (mgR (mgC M M1)) 8 0 [.int (xs (i + 1)), .int (xs (i + 2)), .int (xs (i + 3))] [.int (opChange σ (xs (i + 1)) (xs (i + 2)) (xs (i + 3))).1] (rf_change (rr_mg hR5) hI (fun _ _ h => h)) subRL mR_at (mrgRL _) vX5_change rfl (tb_4 157 (by decide +kernel)) (recR rfl) (by decide) (Nat.le_of_ble_eq_true rfl) dL_law_323 rfl ?_
  rintro _ M2 ⟨rfl, hR2⟩
  refine L_icmp_eq dL_law_326 (tgt := 1450) (by decide) rfl ?_
  exact k _ _ ⟨rc_both hR1, rr_both hR2, hI2⟩
theorem law_out {L : Nat} {xs : Nat → Int32} {i : Nat} {M σ : Mem} (hL : L ≤ 3072) (hi : i + 6 ≤ L) (hF : LI M σ) (hI2 : Inv (opOut σ (xs (i + 1))).2) (k : ∀ M2 σ2, LI M2 σ2 → GL L xs 1450 (lsL i) [] M2) : GL L xs 331 (lsL i) [] M := by
  obtain ⟨hR, hR5, hI⟩ := hF
  refine L_aload_n dL_law_331 (i := 1) (x := 0) rfl rfl ?_
  refine L_arg 1 dL_law_332 dL_law_333 dL_law_334 dL_law_335 dL_law_336 rfl rfl (by omega) hL ?_
  refine L_callV (n := 1) mX4_out shC (fun j => j) (mgC M) 8 0 [.int (xs (i + 1))] [] (cl_out hR hI (fun _ _ h => h)) subCL (fun _ _ => rfl) (mrgCL M) vX4_out rfl (tb_1 228 (by decide +kernel)) (recC rfl) (by decide) (Nat.le_of_ble_eq_true rfl) dL_law_337 rfl ?_
  rintro _ M1 ⟨rfl, hR1⟩
  refine L_aload_n dL_law_340 (i := 2) (x := 69) rfl rfl ?_
  refine L_arg 1 dL_law_341 dL_law_342 dL_law_343 dL_law_344 dL_law_345 rfl rfl (by omega) hL ?_
  refine L_callV (n := 1) mX5_out shR iR (mgR (mgC M M1)) 8 0 [.int (xs (i + 1))] [.int (opOut σ (xs (i + 1))).1] (rf_out (rr_mg hR5) hI (fun _ _ h => h)) subRL mR_at (mrgRL _) vX5_out rfl (tb_4 165 (by decide +kernel)) (recR rfl) (by decide) (Nat.le_of_ble_eq_true rfl) dL_law_346 rfl ?_
  rintro _ M2 ⟨rfl, hR2⟩
  refine L_icmp_eq dL_law_349 (tgt := 1450) (by decide) rfl ?_
  exact k _ _ ⟨rc_both hR1, rr_both hR2, hI2⟩
theorem law_heaters {L : Nat} {xs : Nat → Int32} {i : Nat} {M σ : Mem} (hL : L ≤ 3072) (hi : i + 6 ≤ L) (hF : LI M σ) (hI2 : Inv (opHeaters σ (xs (i + 1))).2) (k : ∀ M2 σ2, LI M2 σ2 → GL L xs 1450 (lsL i) [] M2) : GL L xs 354 (lsL i) [] M := by
  obtain ⟨hR, hR5, hI⟩ := hF
  refine L_aload_n dL_law_354 (i := 1) (x := 0) rfl rfl ?_
  refine L_arg 1 dL_law_355 dL_law_356 dL_law_357 dL_law_358 dL_law_359 rfl rfl (by omega) hL ?_
  refine L_callV (n := 1) mX4_heaters shC (fun j => j) (mgC M) 8 0 [.int (xs (i + 1))] [] (cl_heaters hR hI (fun _ _ h => h)) subCL (fun _ _ => rfl) (mrgCL M) vX4_heaters rfl (tb_1 232 (by decide +kernel)) (recC rfl) (by decide) (Nat.le_of_ble_eq_true rfl) dL_law_360 rfl ?_
  rintro _ M1 ⟨rfl, hR1⟩
  refine L_aload_n dL_law_363 (i := 2) (x := 69) rfl rfl ?_
  refine L_arg 1 dL_law_364 dL_law_365 dL_law_366 dL_law_367 dL_law_368 rfl rfl (by omega) hL ?_
  refine L_callV (n := 1) mX5_heaters shR iR (mgR (mgC M M1)) 8 0 [.int (xs (i + 1))] [.int (opHeaters σ (xs (i + 1))).1] (rf_heaters (rr_mg hR5) hI (fun _ _ h => h)) subRL mR_at (mrgRL _) vX5_heaters rfl (tb_4 169 (by decide +kernel)) (recR rfl) (by decide) (Nat.le_of_ble_eq_true rfl) dL_law_369 rfl ?_
  rintro _ M2 ⟨rfl, hR2⟩
  refine L_icmp_eq dL_law_372 (tgt := 1450) (by decide) rfl ?_
  exact k _ _ ⟨rc_both hR1, rr_both hR2, hI2⟩
theorem law_reach {L : Nat} {xs : Nat → Int32} {i : Nat} {M σ : Mem} (hL : L ≤ 3072) (hi : i + 6 ≤ L) (hF : LI M σ) (hI2 : Inv (opReach σ (xs (i + 1))).2) (k : ∀ M2 σ2, LI M2 σ2 → GL L xs 1450 (lsL i) [] M2) : GL L xs 377 (lsL i) [] M := by
  obtain ⟨hR, hR5, hI⟩ := hF
  refine L_aload_n dL_law_377 (i := 1) (x := 0) rfl rfl ?_
  refine L_arg 1 dL_law_378 dL_law_379 dL_law_380 dL_law_381 dL_law_382 rfl rfl (by omega) hL ?_
  refine L_callV (n := 1) mX4_reach shC (fun j => j) (mgC M) 8 0 [.int (xs (i + 1))] [] (cl_reach hR hI (fun _ _ h => h)) subCL (fun _ _ => rfl) (mrgCL M) vX4_reach rfl (tb_2 0 (by decide +kernel)) (recC rfl) (by decide) (Nat.le_of_ble_eq_true rfl) dL_law_383 rfl ?_
  rintro _ M1 ⟨rfl, hR1⟩
  refine L_aload_n dL_law_386 (i := 2) (x := 69) rfl rfl ?_
  refine L_arg 1 dL_law_387 dL_law_388 dL_law_389 dL_law_390 dL_law_391 rfl rfl (by omega) hL ?_
  refine L_callV (n := 1) mX5_reach shR iR (mgR (mgC M M1)) 8 0 [.int (xs (i + 1))] [.int (opReach σ (xs (i + 1))).1] (rf_reach (rr_mg hR5) hI (fun _ _ h => h)) subRL mR_at (mrgRL _) vX5_reach rfl (tb_4 177 (by decide +kernel)) (recR rfl) (by decide) (Nat.le_of_ble_eq_true rfl) dL_law_392 rfl ?_
  rintro _ M2 ⟨rfl, hR2⟩
  refine L_icmp_eq dL_law_395 (tgt := 1450) (by decide) rfl ?_
  exact k _ _ ⟨rc_both hR1, rr_both hR2, hI2⟩
theorem law_move {L : Nat} {xs : Nat → Int32} {i : Nat} {M σ : Mem} (hL : L ≤ 3072) (hi : i + 6 ≤ L) (hF : LI M σ) (hI2 : Inv (opMove σ (xs (i + 1)) (xs (i + 2))).2) (k : ∀ M2 σ2, LI M2 σ2 → GL L xs 1450 (lsL i) [] M2) : GL L xs 400 (lsL i) [] M := by
  obtain ⟨hR, hR5, hI⟩ := hF
  refine L_aload_n dL_law_400 (i := 1) (x := 0) rfl rfl ?_
  refine L_arg 1 dL_law_401 dL_law_402 dL_law_403 dL_law_404 dL_law_405 rfl rfl (by omega) hL ?_
  refine L_arg 2 dL_law_406 dL_law_407 dL_law_408 dL_law_409 dL_law_410 rfl rfl (by omega) hL ?_
  refine L_callV (n := 2) mX4_move shC (fun j => j) (mgC M) 8 0 [.int (xs (i + 1)), .int (xs (i + 2))] [] (cl_move hR hI (fun _ _ h => h)) subCL (fun _ _ => rfl) (mrgCL M) vX4_move rfl (tb_2 8 (by decide +kernel)) (recC rfl) (by decide) (Nat.le_of_ble_eq_true rfl) dL_law_411 rfl ?_
  rintro _ M1 ⟨rfl, hR1⟩
  refine L_aload_n dL_law_414 (i := 2) (x := 69) rfl rfl ?_
  refine L_arg 1 dL_law_415 dL_law_416 dL_law_417 dL_law_418 dL_law_419 rfl rfl (by omega) hL ?_
  refine L_arg 2 dL_law_420 dL_law_421 dL_law_422 dL_law_423 dL_law_424 rfl rfl (by omega) hL ?_
  refine L_callV (n := 2) mX5_move shR iR (mgR (mgC M M1)) 8 0 [.int (xs (i + 1)), .int (xs (i + 2))] [.int (opMove σ (xs (i + 1)) (xs (i + 2))).1] (rf_move (rr_mg hR5) hI (fun _ _ h => h)) subRL mR_at (mrgRL _) vX5_move rfl (tb_4 184 (by decide +kernel)) (recR rfl) (by decide) (Nat.le_of_ble_eq_true rfl) dL_law_425 rfl ?_
  rintro _ M2 ⟨rfl, hR2⟩
  refine L_icmp_eq dL_law_428 (tgt := 1450) (by decide) rfl ?_
  exact k _ _ ⟨rc_both hR1, rr_both hR2, hI2⟩
theorem law_hours {L : Nat} {xs : Nat → Int32} {i : Nat} {M σ : Mem} (hL : L ≤ 3072) (hi : i + 6 ≤ L) (hF : LI M σ) (hI2 : Inv (opHours σ (xs (i + 1))).2) (k : ∀ M2 σ2, LI M2 σ2 → GL L xs 1450 (lsL i) [] M2) : GL L xs 433 (lsL i) [] M := by
  obtain ⟨hR, hR5, hI⟩ := hF
  refine L_aload_n dL_law_433 (i := 1) (x := 0) rfl rfl ?_
  refine L_arg 1 dL_law_434 dL_law_435 dL_law_436 dL_law_437 dL_law_438 rfl rfl (by omega) hL ?_
  refine L_callV (n := 1) mX4_hours shC (fun j => j) (mgC M) 8 0 [.int (xs (i + 1))] [] (cl_hours hR hI (fun _ _ h => h)) subCL (fun _ _ => rfl) (mrgCL M) vX4_hours rfl (tb_2 19 (by decide +kernel)) (recC rfl) (by decide) (Nat.le_of_ble_eq_true rfl) dL_law_439 rfl ?_
  rintro _ M1 ⟨rfl, hR1⟩
  refine L_aload_n dL_law_442 (i := 2) (x := 69) rfl rfl ?_
  refine L_arg 1 dL_law_443 dL_law_444 dL_law_445 dL_law_446 dL_law_447 rfl rfl (by omega) hL ?_
  refine L_callV (n := 1) mX5_hours shR iR (mgR (mgC M M1)) 8 0 [.int (xs (i + 1))] [.int (opHours σ (xs (i + 1))).1] (rf_hours (rr_mg hR5) hI (fun _ _ h => h)) subRL mR_at (mrgRL _) vX5_hours rfl (tb_4 196 (by decide +kernel)) (recR rfl) (by decide) (Nat.le_of_ble_eq_true rfl) dL_law_448 rfl ?_
  rintro _ M2 ⟨rfl, hR2⟩
  refine L_icmp_eq dL_law_451 (tgt := 1450) (by decide) rfl ?_
  exact k _ _ ⟨rc_both hR1, rr_both hR2, hI2⟩
theorem law_now {L : Nat} {xs : Nat → Int32} {i : Nat} {M σ : Mem} (hL : L ≤ 3072) (hi : i + 6 ≤ L) (hF : LI M σ) (hI2 : Inv (opNow σ (xs (i + 1))).2) (k : ∀ M2 σ2, LI M2 σ2 → GL L xs 1450 (lsL i) [] M2) : GL L xs 456 (lsL i) [] M := by
  obtain ⟨hR, hR5, hI⟩ := hF
  refine L_aload_n dL_law_456 (i := 1) (x := 0) rfl rfl ?_
  refine L_arg 1 dL_law_457 dL_law_458 dL_law_459 dL_law_460 dL_law_461 rfl rfl (by omega) hL ?_
  refine L_callV (n := 1) mX4_now shC (fun j => j) (mgC M) 8 0 [.int (xs (i + 1))] [] (cl_now hR hI (fun _ _ h => h)) subCL (fun _ _ => rfl) (mrgCL M) vX4_now rfl (tb_2 52 (by decide +kernel)) (recC rfl) (by decide) (Nat.le_of_ble_eq_true rfl) dL_law_462 rfl ?_
  rintro _ M1 ⟨rfl, hR1⟩
  refine L_aload_n dL_law_465 (i := 2) (x := 69) rfl rfl ?_
  refine L_arg 1 dL_law_466 dL_law_467 dL_law_468 dL_law_469 dL_law_470 rfl rfl (by omega) hL ?_
  refine L_callV (n := 1) mX5_now shR iR (mgR (mgC M M1)) 8 0 [.int (xs (i + 1))] [.int (opNow σ (xs (i + 1))).1] (rf_now (rr_mg hR5) hI (fun _ _ h => h)) subRL mR_at (mrgRL _) vX5_now rfl (tb_4 218 (by decide +kernel)) (recR rfl) (by decide) (Nat.le_of_ble_eq_true rfl) dL_law_471 rfl ?_
  rintro _ M2 ⟨rfl, hR2⟩
  refine L_icmp_eq dL_law_474 (tgt := 1450) (by decide) rfl ?_
  exact k _ _ ⟨rc_both hR1, rr_both hR2, hI2⟩
theorem law_ahead {L : Nat} {xs : Nat → Int32} {i : Nat} {M σ : Mem} (hL : L ≤ 3072) (hi : i + 6 ≤ L) (hF : LI M σ) (hI2 : Inv (opAhead σ (xs (i + 1)) (xs (i + 2))).2) (k : ∀ M2 σ2, LI M2 σ2 → GL L xs 1450 (lsL i) [] M2) : GL L xs 479 (lsL i) [] M := by
  obtain ⟨hR, hR5, hI⟩ := hF
  refine L_aload_n dL_law_479 (i := 1) (x := 0) rfl rfl ?_
  refine L_arg 1 dL_law_480 dL_law_481 dL_law_482 dL_law_483 dL_law_484 rfl rfl (by omega) hL ?_
  refine L_arg 2 dL_law_485 dL_law_486 dL_law_487 dL_law_488 dL_law_489 rfl rfl (by omega) hL ?_
  refine L_callV (n := 2) mX4_ahead shC (fun j => j) (mgC M) 8 0 [.int (xs (i + 1)), .int (xs (i + 2))] [] (cl_ahead hR hI (fun _ _ h => h)) subCL (fun _ _ => rfl) (mrgCL M) vX4_ahead rfl (tb_2 68 (by decide +kernel)) (recC rfl) (by decide) (Nat.le_of_ble_eq_true rfl) dL_law_490 rfl ?_
  rintro _ M1 ⟨rfl, hR1⟩
  refine L_aload_n dL_law_493 (i := 2) (x := 69) rfl rfl ?_
  refine L_arg 1 dL_law_494 dL_law_495 dL_law_496 dL_law_497 dL_law_498 rfl rfl (by omega) hL ?_
  refine L_arg 2 dL_law_499 dL_law_500 dL_law_501 dL_law_502 dL_law_503 rfl rfl (by omega) hL ?_
  refine L_callV (n := 2) mX5_ahead shR iR (mgR (mgC M M1)) 8 0 [.int (xs (i + 1)), .int (xs (i + 2))] [.int (opAhead σ (xs (i + 1)) (xs (i + 2))).1] (rf_ahead (rr_mg hR5) hI (fun _ _ h => h)) subRL mR_at (mrgRL _) vX5_ahead rfl (tb_4 234 (by decide +kernel)) (recR rfl) (by decide) (Nat.le_of_ble_eq_true rfl) dL_law_504 rfl ?_
  rintro _ M2 ⟨rfl, hR2⟩
  refine L_icmp_eq dL_law_507 (tgt := 1450) (by decide) rfl ?_
  exact k _ _ ⟨rc_both hR1, rr_both hR2, hI2⟩
theorem law_cold {L : Nat} {xs : Nat → Int32} {i : Nat} {M σ : Mem} (hL : L ≤ 3072) (hi : i + 6 ≤ L) (hF : LI M σ) (hI2 : Inv (opFirst σ (xs (i + 1)) 2 60).2) (k : ∀ M2 σ2, LI M2 σ2 → GL L xs 1450 (lsL i) [] M2) : GL L xs 512 (lsL i) [] M := by
  obtain ⟨hR, hR5, hI⟩ := hF
  refine L_aload_n dL_law_512 (i := 1) (x := 0) rfl rfl ?_
  refine L_arg 1 dL_law_513 dL_law_514 dL_law_515 dL_law_516 dL_law_517 rfl rfl (by omega) hL ?_
  refine L_callV (n := 1) mX4_cold shC (fun j => j) (mgC M) 8 0 [.int (xs (i + 1))] [] (cl_cold hR hI (fun _ _ h => h)) subCL (fun _ _ => rfl) (mrgCL M) vX4_cold rfl (tb_2 88 (by decide +kernel)) (recC rfl) (by decide) (Nat.le_of_ble_eq_true rfl) dL_law_518 rfl ?_
  rintro _ M1 ⟨rfl, hR1⟩
  refine L_aload_n dL_law_521 (i := 2) (x := 69) rfl rfl ?_
  refine L_arg 1 dL_law_522 dL_law_523 dL_law_524 dL_law_525 dL_law_526 rfl rfl (by omega) hL ?_
  refine L_callV (n := 1) mX5_cold shR iR (mgR (mgC M M1)) 8 0 [.int (xs (i + 1))] [.int (opFirst σ (xs (i + 1)) 2 60).1] (rf_cold (rr_mg hR5) hI (fun _ _ h => h)) subRL mR_at (mrgRL _) vX5_cold rfl (tb_5 9 (by decide +kernel)) (recR rfl) (by decide) (Nat.le_of_ble_eq_true rfl) dL_law_527 rfl ?_
  rintro _ M2 ⟨rfl, hR2⟩
  refine L_icmp_eq dL_law_530 (tgt := 1450) (by decide) rfl ?_
  exact k _ _ ⟨rc_both hR1, rr_both hR2, hI2⟩
theorem law_spent {L : Nat} {xs : Nat → Int32} {i : Nat} {M σ : Mem} (hL : L ≤ 3072) (hi : i + 6 ≤ L) (hF : LI M σ) (hI2 : Inv (opFirst σ (xs (i + 1)) 3 1).2) (k : ∀ M2 σ2, LI M2 σ2 → GL L xs 1450 (lsL i) [] M2) : GL L xs 535 (lsL i) [] M := by
  obtain ⟨hR, hR5, hI⟩ := hF
  refine L_aload_n dL_law_535 (i := 1) (x := 0) rfl rfl ?_
  refine L_arg 1 dL_law_536 dL_law_537 dL_law_538 dL_law_539 dL_law_540 rfl rfl (by omega) hL ?_
  refine L_callV (n := 1) mX4_spent shC (fun j => j) (mgC M) 8 0 [.int (xs (i + 1))] [] (cl_spent hR hI (fun _ _ h => h)) subCL (fun _ _ => rfl) (mrgCL M) vX4_spent rfl (tb_2 102 (by decide +kernel)) (recC rfl) (by decide) (Nat.le_of_ble_eq_true rfl) dL_law_541 rfl ?_
  rintro _ M1 ⟨rfl, hR1⟩
  refine L_aload_n dL_law_544 (i := 2) (x := 69) rfl rfl ?_
  refine L_arg 1 dL_law_545 dL_law_546 dL_law_547 dL_law_548 dL_law_549 rfl rfl (by omega) hL ?_
  refine L_callV (n := 1) mX5_spent shR iR (mgR (mgC M M1)) 8 0 [.int (xs (i + 1))] [.int (opFirst σ (xs (i + 1)) 3 1).1] (rf_spent (rr_mg hR5) hI (fun _ _ h => h)) subRL mR_at (mrgRL _) vX5_spent rfl (tb_5 22 (by decide +kernel)) (recR rfl) (by decide) (Nat.le_of_ble_eq_true rfl) dL_law_550 rfl ?_
  rintro _ M2 ⟨rfl, hR2⟩
  refine L_icmp_eq dL_law_553 (tgt := 1450) (by decide) rfl ?_
  exact k _ _ ⟨rc_both hR1, rr_both hR2, hI2⟩
theorem law_rest {L : Nat} {xs : Nat → Int32} {i : Nat} {M σ : Mem} (hL : L ≤ 3072) (hi : i + 6 ≤ L) (hF : LI M σ) (hI2 : Inv (opRest σ).2) (k : ∀ M2 σ2, LI M2 σ2 → GL L xs 1450 (lsL i) [] M2) : GL L xs 558 (lsL i) [] M := by
  obtain ⟨hR, hR5, hI⟩ := hF
  refine L_aload_n dL_law_558 (i := 1) (x := 0) rfl rfl ?_
  refine L_callV (n := 0) mX4_rest shC (fun j => j) (mgC M) 8 0 [] [] (cl_rest hR hI (fun _ _ h => h)) subCL (fun _ _ => rfl) (mrgCL M) vX4_rest rfl (tb_2 106 (by decide +kernel)) (recC rfl) (by decide) (Nat.le_of_ble_eq_true rfl) dL_law_559 rfl ?_
  rintro _ M1 ⟨rfl, hR1⟩
  refine L_aload_n dL_law_562 (i := 2) (x := 69) rfl rfl ?_
  refine L_callV (n := 0) mX5_rest shR iR (mgR (mgC M M1)) 8 0 [] [.int (opRest σ).1] (rf_rest (rr_mg hR5) hI (fun _ _ h => h)) subRL mR_at (mrgRL _) vX5_rest rfl (tb_5 26 (by decide +kernel)) (recR rfl) (by decide) (Nat.le_of_ble_eq_true rfl) dL_law_563 rfl ?_
  rintro _ M2 ⟨rfl, hR2⟩
  refine L_icmp_eq dL_law_566 (tgt := 1450) (by decide) rfl ?_
  exact k _ _ ⟨rc_both hR1, rr_both hR2, hI2⟩
theorem law_circle {L : Nat} {xs : Nat → Int32} {i : Nat} {M σ : Mem} (hL : L ≤ 3072) (hi : i + 6 ≤ L) (hF : LI M σ) (hI2 : Inv (opCircle σ).2) (k : ∀ M2 σ2, LI M2 σ2 → GL L xs 1450 (lsL i) [] M2) : GL L xs 571 (lsL i) [] M := by
  obtain ⟨hR, hR5, hI⟩ := hF
  refine L_aload_n dL_law_571 (i := 1) (x := 0) rfl rfl ?_
  refine L_callV (n := 0) mX4_circle shC (fun j => j) (mgC M) 8 0 [] [] (cl_circle hR hI (fun _ _ h => h)) subCL (fun _ _ => rfl) (mrgCL M) vX4_circle rfl (tb_2 114 (by decide +kernel)) (recC rfl) (by decide) (Nat.le_of_ble_eq_true rfl) dL_law_572 rfl ?_
  rintro _ M1 ⟨rfl, hR1⟩
  refine L_aload_n dL_law_575 (i := 2) (x := 69) rfl rfl ?_
  refine L_callV (n := 0) mX5_circle shR iR (mgR (mgC M M1)) 8 0 [] [.int (opCircle σ).1] (rf_circle (rr_mg hR5) hI (fun _ _ h => h)) subRL mR_at (mrgRL _) vX5_circle rfl (tb_5 34 (by decide +kernel)) (recR rfl) (by decide) (Nat.le_of_ble_eq_true rfl) dL_law_576 rfl ?_
  rintro _ M2 ⟨rfl, hR2⟩
  refine L_icmp_eq dL_law_579 (tgt := 1450) (by decide) rfl ?_
  exact k _ _ ⟨rc_both hR1, rr_both hR2, hI2⟩
theorem law_spread {L : Nat} {xs : Nat → Int32} {i : Nat} {M σ : Mem} (hL : L ≤ 3072) (hi : i + 6 ≤ L) (hF : LI M σ) (hI2 : Inv (opSpread σ (xs (i + 1)) (xs (i + 2))).2) (k : ∀ M2 σ2, LI M2 σ2 → GL L xs 1450 (lsL i) [] M2) : GL L xs 584 (lsL i) [] M := by
  obtain ⟨hR, hR5, hI⟩ := hF
  refine L_aload_n dL_law_584 (i := 1) (x := 0) rfl rfl ?_
  refine L_arg 1 dL_law_585 dL_law_586 dL_law_587 dL_law_588 dL_law_589 rfl rfl (by omega) hL ?_
  refine L_arg 2 dL_law_590 dL_law_591 dL_law_592 dL_law_593 dL_law_594 rfl rfl (by omega) hL ?_
  refine L_callV (n := 2) mX4_spread shC (fun j => j) (mgC M) 8 0 [.int (xs (i + 1)), .int (xs (i + 2))] [] (cl_spread hR hI (fun _ _ h => h)) subCL (fun _ _ => rfl) (mrgCL M) vX4_spread rfl (tb_2 126 (by decide +kernel)) (recC rfl) (by decide) (Nat.le_of_ble_eq_true rfl) dL_law_595 rfl ?_
  rintro _ M1 ⟨rfl, hR1⟩
  refine L_aload_n dL_law_598 (i := 2) (x := 69) rfl rfl ?_
  refine L_arg 1 dL_law_599 dL_law_600 dL_law_601 dL_law_602 dL_law_603 rfl rfl (by omega) hL ?_
  refine L_arg 2 dL_law_604 dL_law_605 dL_law_606 dL_law_607 dL_law_608 rfl rfl (by omega) hL ?_
  refine L_callV (n := 2) mX5_spread shR iR (mgR (mgC M M1)) 8 0 [.int (xs (i + 1)), .int (xs (i + 2))] [.int (opSpread σ (xs (i + 1)) (xs (i + 2))).1] (rf_spread (rr_mg hR5) hI (fun _ _ h => h)) subRL mR_at (mrgRL _) vX5_spread rfl (tb_5 38 (by decide +kernel)) (recR rfl) (by decide) (Nat.le_of_ble_eq_true rfl) dL_law_609 rfl ?_
  rintro _ M2 ⟨rfl, hR2⟩
  refine L_icmp_eq dL_law_612 (tgt := 1450) (by decide) rfl ?_
  exact k _ _ ⟨rc_both hR1, rr_both hR2, hI2⟩
theorem law_kindFor {L : Nat} {xs : Nat → Int32} {i : Nat} {M σ : Mem} (hL : L ≤ 3072) (hi : i + 6 ≤ L) (hF : LI M σ) (hI2 : Inv (opBest σ (xs (i + 1)) (xs (i + 2)) 0 7).2) (k : ∀ M2 σ2, LI M2 σ2 → GL L xs 1450 (lsL i) [] M2) : GL L xs 617 (lsL i) [] M := by
  obtain ⟨hR, hR5, hI⟩ := hF
  refine L_aload_n dL_law_617 (i := 1) (x := 0) rfl rfl ?_
  refine L_arg 1 dL_law_618 dL_law_619 dL_law_620 dL_law_621 dL_law_622 rfl rfl (by omega) hL ?_
  refine L_arg 2 dL_law_623 dL_law_624 dL_law_625 dL_law_626 dL_law_627 rfl rfl (by omega) hL ?_
  refine L_callV (n := 2) mX4_kindFor shC (fun j => j) (mgC M) 8 0 [.int (xs (i + 1)), .int (xs (i + 2))] [] (cl_kindFor hR hI (fun _ _ h => h)) subCL (fun _ _ => rfl) (mrgCL M) vX4_kindFor rfl (tb_2 142 (by decide +kernel)) (recC rfl) (by decide) (Nat.le_of_ble_eq_true rfl) dL_law_628 rfl ?_
  rintro _ M1 ⟨rfl, hR1⟩
  refine L_aload_n dL_law_631 (i := 2) (x := 69) rfl rfl ?_
  refine L_arg 1 dL_law_632 dL_law_633 dL_law_634 dL_law_635 dL_law_636 rfl rfl (by omega) hL ?_
  refine L_arg 2 dL_law_637 dL_law_638 dL_law_639 dL_law_640 dL_law_641 rfl rfl (by omega) hL ?_
  refine L_callV (n := 2) mX5_kindFor shR iR (mgR (mgC M M1)) 8 0 [.int (xs (i + 1)), .int (xs (i + 2))] [.int (opBest σ (xs (i + 1)) (xs (i + 2)) 0 7).1] (rf_kindFor (rr_mg hR5) hI (fun _ _ h => h)) subRL mR_at (mrgRL _) vX5_kindFor rfl (tb_5 54 (by decide +kernel)) (recR rfl) (by decide) (Nat.le_of_ble_eq_true rfl) dL_law_642 rfl ?_
  rintro _ M2 ⟨rfl, hR2⟩
  refine L_icmp_eq dL_law_645 (tgt := 1450) (by decide) rfl ?_
  exact k _ _ ⟨rc_both hR1, rr_both hR2, hI2⟩
theorem law_tempted {L : Nat} {xs : Nat → Int32} {i : Nat} {M σ : Mem} (hL : L ≤ 3072) (hi : i + 6 ≤ L) (hF : LI M σ) (hI2 : Inv (opTempted σ (xs (i + 1))).2) (k : ∀ M2 σ2, LI M2 σ2 → GL L xs 1450 (lsL i) [] M2) : GL L xs 650 (lsL i) [] M := by
  obtain ⟨hR, hR5, hI⟩ := hF
  refine L_aload_n dL_law_650 (i := 1) (x := 0) rfl rfl ?_
  refine L_arg 1 dL_law_651 dL_law_652 dL_law_653 dL_law_654 dL_law_655 rfl rfl (by omega) hL ?_
  refine L_callV (n := 1) mX4_tempted shC (fun j => j) (mgC M) 8 0 [.int (xs (i + 1))] [] (cl_tempted hR hI (fun _ _ h => h)) subCL (fun _ _ => rfl) (mrgCL M) vX4_tempted rfl (tb_2 152 (by decide +kernel)) (recC rfl) (by decide) (Nat.le_of_ble_eq_true rfl) dL_law_656 rfl ?_
  rintro _ M1 ⟨rfl, hR1⟩
  refine L_aload_n dL_law_659 (i := 2) (x := 69) rfl rfl ?_
  refine L_arg 1 dL_law_660 dL_law_661 dL_law_662 dL_law_663 dL_law_664 rfl rfl (by omega) hL ?_
  refine L_callV (n := 1) mX5_tempted shR iR (mgR (mgC M M1)) 8 0 [.int (xs (i + 1))] [.int (opTempted σ (xs (i + 1))).1] (rf_tempted (rr_mg hR5) hI (fun _ _ h => h)) subRL mR_at (mrgRL _) vX5_tempted rfl (tb_5 62 (by decide +kernel)) (recR rfl) (by decide) (Nat.le_of_ble_eq_true rfl) dL_law_665 rfl ?_
  rintro _ M2 ⟨rfl, hR2⟩
  refine L_icmp_eq dL_law_668 (tgt := 1450) (by decide) rfl ?_
  exact k _ _ ⟨rc_both hR1, rr_both hR2, hI2⟩
theorem law_missed {L : Nat} {xs : Nat → Int32} {i : Nat} {M σ : Mem} (hL : L ≤ 3072) (hi : i + 6 ≤ L) (hF : LI M σ) (hI2 : Inv (opMissed σ (xs (i + 1))).2) (k : ∀ M2 σ2, LI M2 σ2 → GL L xs 1450 (lsL i) [] M2) : GL L xs 673 (lsL i) [] M := by
  obtain ⟨hR, hR5, hI⟩ := hF
  refine L_aload_n dL_law_673 (i := 1) (x := 0) rfl rfl ?_
  refine L_arg 1 dL_law_674 dL_law_675 dL_law_676 dL_law_677 dL_law_678 rfl rfl (by omega) hL ?_
  refine L_callV (n := 1) mX4_missed shC (fun j => j) (mgC M) 8 0 [.int (xs (i + 1))] [] (cl_missed hR hI (fun _ _ h => h)) subCL (fun _ _ => rfl) (mrgCL M) vX4_missed rfl (tb_2 156 (by decide +kernel)) (recC rfl) (by decide) (Nat.le_of_ble_eq_true rfl) dL_law_679 rfl ?_
  rintro _ M1 ⟨rfl, hR1⟩
  refine L_aload_n dL_law_682 (i := 2) (x := 69) rfl rfl ?_
  refine L_arg 1 dL_law_683 dL_law_684 dL_law_685 dL_law_686 dL_law_687 rfl rfl (by omega) hL ?_
  refine L_callV (n := 1) mX5_missed shR iR (mgR (mgC M M1)) 8 0 [.int (xs (i + 1))] [.int (opMissed σ (xs (i + 1))).1] (rf_missed (rr_mg hR5) hI (fun _ _ h => h)) subRL mR_at (mrgRL _) vX5_missed rfl (tb_5 70 (by decide +kernel)) (recR rfl) (by decide) (Nat.le_of_ble_eq_true rfl) dL_law_688 rfl ?_
  rintro _ M2 ⟨rfl, hR2⟩
  refine L_icmp_eq dL_law_691 (tgt := 1450) (by decide) rfl ?_
  exact k _ _ ⟨rc_both hR1, rr_both hR2, hI2⟩
theorem law_warmest {L : Nat} {xs : Nat → Int32} {i : Nat} {M σ : Mem} (hL : L ≤ 3072) (hi : i + 6 ≤ L) (hF : LI M σ) (hI2 : Inv (opWarmest σ (xs (i + 1))).2) (k : ∀ M2 σ2, LI M2 σ2 → GL L xs 1450 (lsL i) [] M2) : GL L xs 696 (lsL i) [] M := by
  obtain ⟨hR, hR5, hI⟩ := hF
  refine L_aload_n dL_law_696 (i := 1) (x := 0) rfl rfl ?_
  refine L_arg 1 dL_law_697 dL_law_698 dL_law_699 dL_law_700 dL_law_701 rfl rfl (by omega) hL ?_
  refine L_callV (n := 1) mX4_warmest shC (fun j => j) (mgC M) 8 0 [.int (xs (i + 1))] [] (cl_warmest hR hI (fun _ _ h => h)) subCL (fun _ _ => rfl) (mrgCL M) vX4_warmest rfl (tb_2 164 (by decide +kernel)) (recC rfl) (by decide) (Nat.le_of_ble_eq_true rfl) dL_law_702 rfl ?_
  rintro _ M1 ⟨rfl, hR1⟩
  refine L_aload_n dL_law_705 (i := 2) (x := 69) rfl rfl ?_
  refine L_arg 1 dL_law_706 dL_law_707 dL_law_708 dL_law_709 dL_law_710 rfl rfl (by omega) hL ?_
  refine L_callV (n := 1) mX5_warmest shR iR (mgR (mgC M M1)) 8 0 [.int (xs (i + 1))] [.int (opWarmest σ (xs (i + 1))).1] (rf_warmest (rr_mg hR5) hI (fun _ _ h => h)) subRL mR_at (mrgRL _) vX5_warmest rfl (tb_5 74 (by decide +kernel)) (recR rfl) (by decide) (Nat.le_of_ble_eq_true rfl) dL_law_711 rfl ?_
  rintro _ M2 ⟨rfl, hR2⟩
  refine L_icmp_eq dL_law_714 (tgt := 1450) (by decide) rfl ?_
  exact k _ _ ⟨rc_both hR1, rr_both hR2, hI2⟩
theorem law_exchange {L : Nat} {xs : Nat → Int32} {i : Nat} {M σ : Mem} (hL : L ≤ 3072) (hi : i + 6 ≤ L) (hF : LI M σ) (hI2 : Inv (opExchange σ (xs (i + 1))).2) (k : ∀ M2 σ2, LI M2 σ2 → GL L xs 1450 (lsL i) [] M2) : GL L xs 719 (lsL i) [] M := by
  obtain ⟨hR, hR5, hI⟩ := hF
  refine L_aload_n dL_law_719 (i := 1) (x := 0) rfl rfl ?_
  refine L_arg 1 dL_law_720 dL_law_721 dL_law_722 dL_law_723 dL_law_724 rfl rfl (by omega) hL ?_
  refine L_callV (n := 1) mX4_exchange shC (fun j => j) (mgC M) 8 0 [.int (xs (i + 1))] [] (cl_exchange hR hI (fun _ _ h => h)) subCL (fun _ _ => rfl) (mrgCL M) vX4_exchange rfl (tb_2 180 (by decide +kernel)) (recC rfl) (by decide) (Nat.le_of_ble_eq_true rfl) dL_law_725 rfl ?_
  rintro _ M1 ⟨rfl, hR1⟩
  refine L_aload_n dL_law_728 (i := 2) (x := 69) rfl rfl ?_
  refine L_arg 1 dL_law_729 dL_law_730 dL_law_731 dL_law_732 dL_law_733 rfl rfl (by omega) hL ?_
  refine L_callV (n := 1) mX5_exchange shR iR (mgR (mgC M M1)) 8 0 [.int (xs (i + 1))] [.int (opExchange σ (xs (i + 1))).1] (rf_exchange (rr_mg hR5) hI (fun _ _ h => h)) subRL mR_at (mrgRL _) vX5_exchange rfl (tb_5 90 (by decide +kernel)) (recR rfl) (by decide) (Nat.le_of_ble_eq_true rfl) dL_law_734 rfl ?_
  rintro _ M2 ⟨rfl, hR2⟩
  refine L_icmp_eq dL_law_737 (tgt := 1450) (by decide) rfl ?_
  exact k _ _ ⟨rc_both hR1, rr_both hR2, hI2⟩
theorem law_deal {L : Nat} {xs : Nat → Int32} {i : Nat} {M σ : Mem} (hL : L ≤ 3072) (hi : i + 6 ≤ L) (hF : LI M σ) (hI2 : Inv (opDeal σ (xs (i + 1))).2) (k : ∀ M2 σ2, LI M2 σ2 → GL L xs 1450 (lsL i) [] M2) : GL L xs 742 (lsL i) [] M := by
  obtain ⟨hR, hR5, hI⟩ := hF
  refine L_aload_n dL_law_742 (i := 1) (x := 0) rfl rfl ?_
  refine L_arg 1 dL_law_743 dL_law_744 dL_law_745 dL_law_746 dL_law_747 rfl rfl (by omega) hL ?_
  refine L_callV (n := 1) mX4_deal shC (fun j => j) (mgC M) 8 0 [.int (xs (i + 1))] [] (cl_deal hR hI (fun _ _ h => h)) subCL (fun _ _ => rfl) (mrgCL M) vX4_deal rfl (tb_2 184 (by decide +kernel)) (recC rfl) (by decide) (Nat.le_of_ble_eq_true rfl) dL_law_748 rfl ?_
  rintro _ M1 ⟨rfl, hR1⟩
  refine L_aload_n dL_law_751 (i := 2) (x := 69) rfl rfl ?_
  refine L_arg 1 dL_law_752 dL_law_753 dL_law_754 dL_law_755 dL_law_756 rfl rfl (by omega) hL ?_
  refine L_callV (n := 1) mX5_deal shR iR (mgR (mgC M M1)) 8 0 [.int (xs (i + 1))] [.int (opDeal σ (xs (i + 1))).1] (rf_deal (rr_mg hR5) hI (fun _ _ h => h)) subRL mR_at (mrgRL _) vX5_deal rfl (tb_5 94 (by decide +kernel)) (recR rfl) (by decide) (Nat.le_of_ble_eq_true rfl) dL_law_757 rfl ?_
  rintro _ M2 ⟨rfl, hR2⟩
  refine L_icmp_eq dL_law_760 (tgt := 1450) (by decide) rfl ?_
  exact k _ _ ⟨rc_both hR1, rr_both hR2, hI2⟩
theorem law_orders {L : Nat} {xs : Nat → Int32} {i : Nat} {M σ : Mem} (hL : L ≤ 3072) (hi : i + 6 ≤ L) (hF : LI M σ) (hI2 : Inv (opOrders σ (xs (i + 1)) (xs (i + 2))).2) (k : ∀ M2 σ2, LI M2 σ2 → GL L xs 1450 (lsL i) [] M2) : GL L xs 765 (lsL i) [] M := by
  obtain ⟨hR, hR5, hI⟩ := hF
  refine L_aload_n dL_law_765 (i := 1) (x := 0) rfl rfl ?_
  refine L_arg 1 dL_law_766 dL_law_767 dL_law_768 dL_law_769 dL_law_770 rfl rfl (by omega) hL ?_
  refine L_arg 2 dL_law_771 dL_law_772 dL_law_773 dL_law_774 dL_law_775 rfl rfl (by omega) hL ?_
  refine L_callV (n := 2) mX4_orders shC (fun j => j) (mgC M) 12 0 [.int (xs (i + 1)), .int (xs (i + 2))] [] (cl_orders hR hI (fun _ _ h => h)) subCL (fun _ _ => rfl) (mrgCL M) vX4_orders rfl (tb_2 188 (by decide +kernel)) (recC rfl) (by decide) (Nat.le_of_ble_eq_true rfl) dL_law_776 rfl ?_
  rintro _ M1 ⟨rfl, hR1⟩
  refine L_aload_n dL_law_779 (i := 2) (x := 69) rfl rfl ?_
  refine L_arg 1 dL_law_780 dL_law_781 dL_law_782 dL_law_783 dL_law_784 rfl rfl (by omega) hL ?_
  refine L_arg 2 dL_law_785 dL_law_786 dL_law_787 dL_law_788 dL_law_789 rfl rfl (by omega) hL ?_
  refine L_callV (n := 2) mX5_orders shR iR (mgR (mgC M M1)) 12 0 [.int (xs (i + 1)), .int (xs (i + 2))] [.int (opOrders σ (xs (i + 1)) (xs (i + 2))).1] (rf_orders (rr_mg hR5) hI (fun _ _ h => h)) subRL mR_at (mrgRL _) vX5_orders rfl (tb_5 98 (by decide +kernel)) (recR rfl) (by decide) (Nat.le_of_ble_eq_true rfl) dL_law_790 rfl ?_
  rintro _ M2 ⟨rfl, hR2⟩
  refine L_icmp_eq dL_law_793 (tgt := 1450) (by decide) rfl ?_
  exact k _ _ ⟨rc_both hR1, rr_both hR2, hI2⟩
theorem law_coal {L : Nat} {xs : Nat → Int32} {i : Nat} {M σ : Mem} (hL : L ≤ 3072) (hi : i + 6 ≤ L) (hF : LI M σ) (hI2 : Inv (opCoal σ (xs (i + 1)) (xs (i + 2))).2) (k : ∀ M2 σ2, LI M2 σ2 → GL L xs 1450 (lsL i) [] M2) : GL L xs 798 (lsL i) [] M := by
  obtain ⟨hR, hR5, hI⟩ := hF
  refine L_aload_n dL_law_798 (i := 1) (x := 0) rfl rfl ?_
  refine L_arg 1 dL_law_799 dL_law_800 dL_law_801 dL_law_802 dL_law_803 rfl rfl (by omega) hL ?_
  refine L_arg 2 dL_law_804 dL_law_805 dL_law_806 dL_law_807 dL_law_808 rfl rfl (by omega) hL ?_
  refine L_callV (n := 2) mX4_coal shC (fun j => j) (mgC M) 8 0 [.int (xs (i + 1)), .int (xs (i + 2))] [] (cl_coal hR hI (fun _ _ h => h)) subCL (fun _ _ => rfl) (mrgCL M) vX4_coal rfl (tb_2 199 (by decide +kernel)) (recC rfl) (by decide) (Nat.le_of_ble_eq_true rfl) dL_law_809 rfl ?_
  rintro _ M1 ⟨rfl, hR1⟩
  refine L_aload_n dL_law_812 (i := 2) (x := 69) rfl rfl ?_
  refine L_arg 1 dL_law_813 dL_law_814 dL_law_815 dL_law_816 dL_law_817 rfl rfl (by omega) hL ?_
  refine L_arg 2 dL_law_818 dL_law_819 dL_law_820 dL_law_821 dL_law_822 rfl rfl (by omega) hL ?_
  refine L_callV (n := 2) mX5_coal shR iR (mgR (mgC M M1)) 8 0 [.int (xs (i + 1)), .int (xs (i + 2))] [.int (opCoal σ (xs (i + 1)) (xs (i + 2))).1] (rf_coal (rr_mg hR5) hI (fun _ _ h => h)) subRL mR_at (mrgRL _) vX5_coal rfl (tb_5 106 (by decide +kernel)) (recR rfl) (by decide) (Nat.le_of_ble_eq_true rfl) dL_law_823 rfl ?_
  rintro _ M2 ⟨rfl, hR2⟩
  refine L_icmp_eq dL_law_826 (tgt := 1450) (by decide) rfl ?_
  exact k _ _ ⟨rc_both hR1, rr_both hR2, hI2⟩
theorem law_wall {L : Nat} {xs : Nat → Int32} {i : Nat} {M σ : Mem} (hL : L ≤ 3072) (hi : i + 6 ≤ L) (hF : LI M σ) (hI2 : Inv (opWall σ (xs (i + 1)) (xs (i + 2))).2) (k : ∀ M2 σ2, LI M2 σ2 → GL L xs 1450 (lsL i) [] M2) : GL L xs 831 (lsL i) [] M := by
  obtain ⟨hR, hR5, hI⟩ := hF
  refine L_aload_n dL_law_831 (i := 1) (x := 0) rfl rfl ?_
  refine L_arg 1 dL_law_832 dL_law_833 dL_law_834 dL_law_835 dL_law_836 rfl rfl (by omega) hL ?_
  refine L_arg 2 dL_law_837 dL_law_838 dL_law_839 dL_law_840 dL_law_841 rfl rfl (by omega) hL ?_
  refine L_callV (n := 2) mX4_wall shC (fun j => j) (mgC M) 8 0 [.int (xs (i + 1)), .int (xs (i + 2))] [] (cl_wall hR hI (fun _ _ h => h)) subCL (fun _ _ => rfl) (mrgCL M) vX4_wall rfl (tb_2 203 (by decide +kernel)) (recC rfl) (by decide) (Nat.le_of_ble_eq_true rfl) dL_law_842 rfl ?_
  rintro _ M1 ⟨rfl, hR1⟩
  refine L_aload_n dL_law_845 (i := 2) (x := 69) rfl rfl ?_
  refine L_arg 1 dL_law_846 dL_law_847 dL_law_848 dL_law_849 dL_law_850 rfl rfl (by omega) hL ?_
  refine L_arg 2 dL_law_851 dL_law_852 dL_law_853 dL_law_854 dL_law_855 rfl rfl (by omega) hL ?_
  refine L_callV (n := 2) mX5_wall shR iR (mgR (mgC M M1)) 8 0 [.int (xs (i + 1)), .int (xs (i + 2))] [.int (opWall σ (xs (i + 1)) (xs (i + 2))).1] (rf_wall (rr_mg hR5) hI (fun _ _ h => h)) subRL mR_at (mrgRL _) vX5_wall rfl (tb_5 114 (by decide +kernel)) (recR rfl) (by decide) (Nat.le_of_ble_eq_true rfl) dL_law_856 rfl ?_
  rintro _ M2 ⟨rfl, hR2⟩
  refine L_icmp_eq dL_law_859 (tgt := 1450) (by decide) rfl ?_
  exact k _ _ ⟨rc_both hR1, rr_both hR2, hI2⟩
theorem law_turn {L : Nat} {xs : Nat → Int32} {i : Nat} {M σ : Mem} (hL : L ≤ 3072) (hi : i + 6 ≤ L) (hF : LI M σ) (hI2 : Inv (opTurn σ (xs (i + 1)) (xs (i + 2))).2) (k : ∀ M2 σ2, LI M2 σ2 → GL L xs 1450 (lsL i) [] M2) : GL L xs 864 (lsL i) [] M := by
  obtain ⟨hR, hR5, hI⟩ := hF
  refine L_aload_n dL_law_864 (i := 1) (x := 0) rfl rfl ?_
  refine L_arg 1 dL_law_865 dL_law_866 dL_law_867 dL_law_868 dL_law_869 rfl rfl (by omega) hL ?_
  refine L_arg 2 dL_law_870 dL_law_871 dL_law_872 dL_law_873 dL_law_874 rfl rfl (by omega) hL ?_
  refine L_callV (n := 2) mX4_turn shC (fun j => j) (mgC M) 8 0 [.int (xs (i + 1)), .int (xs (i + 2))] [] (cl_turn hR hI (fun _ _ h => h)) subCL (fun _ _ => rfl) (mrgCL M) vX4_turn rfl (tb_2 207 (by decide +kernel)) (recC rfl) (by decide) (Nat.le_of_ble_eq_true rfl) dL_law_875 rfl ?_
  rintro _ M1 ⟨rfl, hR1⟩
  refine L_aload_n dL_law_878 (i := 2) (x := 69) rfl rfl ?_
  refine L_arg 1 dL_law_879 dL_law_880 dL_law_881 dL_law_882 dL_law_883 rfl rfl (by omega) hL ?_
  refine L_arg 2 dL_law_884 dL_law_885 dL_law_886 dL_law_887 dL_law_888 rfl rfl (by omega) hL ?_
  refine L_callV (n := 2) mX5_turn shR iR (mgR (mgC M M1)) 8 0 [.int (xs (i + 1)), .int (xs (i + 2))] [.int (opTurn σ (xs (i + 1)) (xs (i + 2))).1] (rf_turn (rr_mg hR5) hI (fun _ _ h => h)) subRL mR_at (mrgRL _) vX5_turn rfl (tb_5 118 (by decide +kernel)) (recR rfl) (by decide) (Nat.le_of_ble_eq_true rfl) dL_law_889 rfl ?_
  rintro _ M2 ⟨rfl, hR2⟩
  refine L_icmp_eq dL_law_892 (tgt := 1450) (by decide) rfl ?_
  exact k _ _ ⟨rc_both hR1, rr_both hR2, hI2⟩
theorem law_damper {L : Nat} {xs : Nat → Int32} {i : Nat} {M σ : Mem} (hL : L ≤ 3072) (hi : i + 6 ≤ L) (hF : LI M σ) (hI2 : Inv (opBest σ (xs (i + 1)) (xs (i + 2)) 6 4).2) (k : ∀ M2 σ2, LI M2 σ2 → GL L xs 1450 (lsL i) [] M2) : GL L xs 897 (lsL i) [] M := by
  obtain ⟨hR, hR5, hI⟩ := hF
  refine L_aload_n dL_law_897 (i := 1) (x := 0) rfl rfl ?_
  refine L_arg 1 dL_law_898 dL_law_899 dL_law_900 dL_law_901 dL_law_902 rfl rfl (by omega) hL ?_
  refine L_arg 2 dL_law_903 dL_law_904 dL_law_905 dL_law_906 dL_law_907 rfl rfl (by omega) hL ?_
  refine L_callV (n := 2) mX4_damper shC (fun j => j) (mgC M) 8 0 [.int (xs (i + 1)), .int (xs (i + 2))] [] (cl_damper hR hI (fun _ _ h => h)) subCL (fun _ _ => rfl) (mrgCL M) vX4_damper rfl (tb_2 211 (by decide +kernel)) (recC rfl) (by decide) (Nat.le_of_ble_eq_true rfl) dL_law_908 rfl ?_
  rintro _ M1 ⟨rfl, hR1⟩
  refine L_aload_n dL_law_911 (i := 2) (x := 69) rfl rfl ?_
  refine L_arg 1 dL_law_912 dL_law_913 dL_law_914 dL_law_915 dL_law_916 rfl rfl (by omega) hL ?_
  refine L_arg 2 dL_law_917 dL_law_918 dL_law_919 dL_law_920 dL_law_921 rfl rfl (by omega) hL ?_
  refine L_callV (n := 2) mX5_damper shR iR (mgR (mgC M M1)) 8 0 [.int (xs (i + 1)), .int (xs (i + 2))] [.int (opBest σ (xs (i + 1)) (xs (i + 2)) 6 4).1] (rf_damper (rr_mg hR5) hI (fun _ _ h => h)) subRL mR_at (mrgRL _) vX5_damper rfl (tb_5 122 (by decide +kernel)) (recR rfl) (by decide) (Nat.le_of_ble_eq_true rfl) dL_law_922 rfl ?_
  rintro _ M2 ⟨rfl, hR2⟩
  refine L_icmp_eq dL_law_925 (tgt := 1450) (by decide) rfl ?_
  exact k _ _ ⟨rc_both hR1, rr_both hR2, hI2⟩
theorem law_own {L : Nat} {xs : Nat → Int32} {i : Nat} {M σ : Mem} (hL : L ≤ 3072) (hi : i + 6 ≤ L) (hF : LI M σ) (hI2 : Inv (opOwn σ (xs (i + 1))).2) (k : ∀ M2 σ2, LI M2 σ2 → GL L xs 1450 (lsL i) [] M2) : GL L xs 930 (lsL i) [] M := by
  obtain ⟨hR, hR5, hI⟩ := hF
  refine L_aload_n dL_law_930 (i := 1) (x := 0) rfl rfl ?_
  refine L_arg 1 dL_law_931 dL_law_932 dL_law_933 dL_law_934 dL_law_935 rfl rfl (by omega) hL ?_
  refine L_callV (n := 1) mX4_own shC (fun j => j) (mgC M) 8 0 [.int (xs (i + 1))] [] (cl_own hR hI (fun _ _ h => h)) subCL (fun _ _ => rfl) (mrgCL M) vX4_own rfl (tb_2 215 (by decide +kernel)) (recC rfl) (by decide) (Nat.le_of_ble_eq_true rfl) dL_law_936 rfl ?_
  rintro _ M1 ⟨rfl, hR1⟩
  refine L_aload_n dL_law_939 (i := 2) (x := 69) rfl rfl ?_
  refine L_arg 1 dL_law_940 dL_law_941 dL_law_942 dL_law_943 dL_law_944 rfl rfl (by omega) hL ?_
  refine L_callV (n := 1) mX5_own shR iR (mgR (mgC M M1)) 8 0 [.int (xs (i + 1))] [.int (opOwn σ (xs (i + 1))).1] (rf_own (rr_mg hR5) hI (fun _ _ h => h)) subRL mR_at (mrgRL _) vX5_own rfl (tb_5 126 (by decide +kernel)) (recR rfl) (by decide) (Nat.le_of_ble_eq_true rfl) dL_law_945 rfl ?_
  rintro _ M2 ⟨rfl, hR2⟩
  refine L_icmp_eq dL_law_948 (tgt := 1450) (by decide) rfl ?_
  exact k _ _ ⟨rc_both hR1, rr_both hR2, hI2⟩
theorem law_culprits {L : Nat} {xs : Nat → Int32} {i : Nat} {M σ : Mem} (hL : L ≤ 3072) (hi : i + 6 ≤ L) (hF : LI M σ) (hI2 : Inv (opCulprits σ).2) (k : ∀ M2 σ2, LI M2 σ2 → GL L xs 1450 (lsL i) [] M2) : GL L xs 953 (lsL i) [] M := by
  obtain ⟨hR, hR5, hI⟩ := hF
  refine L_aload_n dL_law_953 (i := 1) (x := 0) rfl rfl ?_
  refine L_callV (n := 0) mX4_culprits shC (fun j => j) (mgC M) 8 0 [] [] (cl_culprits hR hI (fun _ _ h => h)) subCL (fun _ _ => rfl) (mrgCL M) vX4_culprits rfl (tb_2 219 (by decide +kernel)) (recC rfl) (by decide) (Nat.le_of_ble_eq_true rfl) dL_law_954 rfl ?_
  rintro _ M1 ⟨rfl, hR1⟩
  refine L_aload_n dL_law_957 (i := 2) (x := 69) rfl rfl ?_
  refine L_callV (n := 0) mX5_culprits shR iR (mgR (mgC M M1)) 8 0 [] [.int (opCulprits σ).1] (rf_culprits (rr_mg hR5) hI (fun _ _ h => h)) subRL mR_at (mrgRL _) vX5_culprits rfl (tb_5 130 (by decide +kernel)) (recR rfl) (by decide) (Nat.le_of_ble_eq_true rfl) dL_law_958 rfl ?_
  rintro _ M2 ⟨rfl, hR2⟩
  refine L_icmp_eq dL_law_961 (tgt := 1450) (by decide) rfl ?_
  exact k _ _ ⟨rc_both hR1, rr_both hR2, hI2⟩
theorem law_surely {L : Nat} {xs : Nat → Int32} {i : Nat} {M σ : Mem} (hL : L ≤ 3072) (hi : i + 6 ≤ L) (hF : LI M σ) (hI2 : Inv (opSurely σ (xs (i + 1))).2) (k : ∀ M2 σ2, LI M2 σ2 → GL L xs 1450 (lsL i) [] M2) : GL L xs 966 (lsL i) [] M := by
  obtain ⟨hR, hR5, hI⟩ := hF
  refine L_aload_n dL_law_966 (i := 1) (x := 0) rfl rfl ?_
  refine L_arg 1 dL_law_967 dL_law_968 dL_law_969 dL_law_970 dL_law_971 rfl rfl (by omega) hL ?_
  refine L_callV (n := 1) mX4_surely shC (fun j => j) (mgC M) 8 0 [.int (xs (i + 1))] [] (cl_surely hR hI (fun _ _ h => h)) subCL (fun _ _ => rfl) (mrgCL M) vX4_surely rfl (tb_2 231 (by decide +kernel)) (recC rfl) (by decide) (Nat.le_of_ble_eq_true rfl) dL_law_972 rfl ?_
  rintro _ M1 ⟨rfl, hR1⟩
  refine L_aload_n dL_law_975 (i := 2) (x := 69) rfl rfl ?_
  refine L_arg 1 dL_law_976 dL_law_977 dL_law_978 dL_law_979 dL_law_980 rfl rfl (by omega) hL ?_
  refine L_callV (n := 1) mX5_surely shR iR (mgR (mgC M M1)) 8 0 [.int (xs (i + 1))] [.int (opSurely σ (xs (i + 1))).1] (rf_surely (rr_mg hR5) hI (fun _ _ h => h)) subRL mR_at (mrgRL _) vX5_surely rfl (tb_5 142 (by decide +kernel)) (recR rfl) (by decide) (Nat.le_of_ble_eq_true rfl) dL_law_981 rfl ?_
  rintro _ M2 ⟨rfl, hR2⟩
  refine L_icmp_eq dL_law_984 (tgt := 1450) (by decide) rfl ?_
  exact k _ _ ⟨rc_both hR1, rr_both hR2, hI2⟩
theorem law_travel {L : Nat} {xs : Nat → Int32} {i : Nat} {M σ : Mem} (hL : L ≤ 3072) (hi : i + 6 ≤ L) (hF : LI M σ) (hI2 : Inv (opTravel σ (xs (i + 1))).2) (k : ∀ M2 σ2, LI M2 σ2 → GL L xs 1450 (lsL i) [] M2) : GL L xs 989 (lsL i) [] M := by
  obtain ⟨hR, hR5, hI⟩ := hF
  refine L_aload_n dL_law_989 (i := 1) (x := 0) rfl rfl ?_
  refine L_arg 1 dL_law_990 dL_law_991 dL_law_992 dL_law_993 dL_law_994 rfl rfl (by omega) hL ?_
  refine L_callV (n := 1) mX4_travel shC (fun j => j) (mgC M) 8 0 [.int (xs (i + 1))] [] (cl_travel hR hI (fun _ _ h => h)) subCL (fun _ _ => rfl) (mrgCL M) vX4_travel rfl (tb_2 235 (by decide +kernel)) (recC rfl) (by decide) (Nat.le_of_ble_eq_true rfl) dL_law_995 rfl ?_
  rintro _ M1 ⟨rfl, hR1⟩
  refine L_aload_n dL_law_998 (i := 2) (x := 69) rfl rfl ?_
  refine L_arg 1 dL_law_999 dL_law_1000 dL_law_1001 dL_law_1002 dL_law_1003 rfl rfl (by omega) hL ?_
  refine L_callV (n := 1) mX5_travel shR iR (mgR (mgC M M1)) 8 0 [.int (xs (i + 1))] [.int (opTravel σ (xs (i + 1))).1] (rf_travel (rr_mg hR5) hI (fun _ _ h => h)) subRL mR_at (mrgRL _) vX5_travel rfl (tb_5 146 (by decide +kernel)) (recR rfl) (by decide) (Nat.le_of_ble_eq_true rfl) dL_law_1004 rfl ?_
  rintro _ M2 ⟨rfl, hR2⟩
  refine L_icmp_eq dL_law_1007 (tgt := 1450) (by decide) rfl ?_
  exact k _ _ ⟨rc_both hR1, rr_both hR2, hI2⟩
theorem law_seed {L : Nat} {xs : Nat → Int32} {i : Nat} {M σ : Mem} (hL : L ≤ 3072) (hi : i + 6 ≤ L) (hF : LI M σ) (hI2 : Inv (opSeed σ (xs (i + 1))).2) (k : ∀ M2 σ2, LI M2 σ2 → GL L xs 1450 (lsL i) [] M2) : GL L xs 1012 (lsL i) [] M := by
  obtain ⟨hR, hR5, hI⟩ := hF
  refine L_aload_n dL_law_1012 (i := 1) (x := 0) rfl rfl ?_
  refine L_arg 1 dL_law_1013 dL_law_1014 dL_law_1015 dL_law_1016 dL_law_1017 rfl rfl (by omega) hL ?_
  refine L_callV (n := 1) mX4_seed shC (fun j => j) (mgC M) 8 0 [.int (xs (i + 1))] [] (cl_seed hR hI (fun _ _ h => h)) subCL (fun _ _ => rfl) (mrgCL M) vX4_seed rfl (tb_3 8 (by decide +kernel)) (recC rfl) (by decide) (Nat.le_of_ble_eq_true rfl) dL_law_1018 rfl ?_
  rintro _ M1 ⟨rfl, hR1⟩
  refine L_aload_n dL_law_1021 (i := 2) (x := 69) rfl rfl ?_
  refine L_arg 1 dL_law_1022 dL_law_1023 dL_law_1024 dL_law_1025 dL_law_1026 rfl rfl (by omega) hL ?_
  refine L_callV (n := 1) mX5_seed shR iR (mgR (mgC M M1)) 8 0 [.int (xs (i + 1))] [.int (opSeed σ (xs (i + 1))).1] (rf_seed (rr_mg hR5) hI (fun _ _ h => h)) subRL mR_at (mrgRL _) vX5_seed rfl (tb_5 159 (by decide +kernel)) (recR rfl) (by decide) (Nat.le_of_ble_eq_true rfl) dL_law_1027 rfl ?_
  rintro _ M2 ⟨rfl, hR2⟩
  refine L_icmp_eq dL_law_1030 (tgt := 1450) (by decide) rfl ?_
  exact k _ _ ⟨rc_both hR1, rr_both hR2, hI2⟩
theorem law_feed {L : Nat} {xs : Nat → Int32} {i : Nat} {M σ : Mem} (hL : L ≤ 3072) (hi : i + 6 ≤ L) (hF : LI M σ) (hI2 : Inv (opFeed σ (xs (i + 1)) (xs (i + 2))).2) (k : ∀ M2 σ2, LI M2 σ2 → GL L xs 1450 (lsL i) [] M2) : GL L xs 1035 (lsL i) [] M := by
  obtain ⟨hR, hR5, hI⟩ := hF
  refine L_aload_n dL_law_1035 (i := 1) (x := 0) rfl rfl ?_
  refine L_arg 1 dL_law_1036 dL_law_1037 dL_law_1038 dL_law_1039 dL_law_1040 rfl rfl (by omega) hL ?_
  refine L_arg 2 dL_law_1041 dL_law_1042 dL_law_1043 dL_law_1044 dL_law_1045 rfl rfl (by omega) hL ?_
  refine L_callV (n := 2) mX4_feed shC (fun j => j) (mgC M) 8 0 [.int (xs (i + 1)), .int (xs (i + 2))] [] (cl_feed hR hI (fun _ _ h => h)) subCL (fun _ _ => rfl) (mrgCL M) vX4_feed rfl (tb_3 12 (by decide +kernel)) (recC rfl) (by decide) (Nat.le_of_ble_eq_true rfl) dL_law_1046 rfl ?_
  rintro _ M1 ⟨rfl, hR1⟩
  refine L_aload_n dL_law_1049 (i := 2) (x := 69) rfl rfl ?_
  refine L_arg 1 dL_law_1050 dL_law_1051 dL_law_1052 dL_law_1053 dL_law_1054 rfl rfl (by omega) hL ?_
  refine L_arg 2 dL_law_1055 dL_law_1056 dL_law_1057 dL_law_1058 dL_law_1059 rfl rfl (by omega) hL ?_
  refine L_callV (n := 2) mX5_feed shR iR (mgR (mgC M M1)) 8 0 [.int (xs (i + 1)), .int (xs (i + 2))] [.int (opFeed σ (xs (i + 1)) (xs (i + 2))).1] (rf_feed (rr_mg hR5) hI (fun _ _ h => h)) subRL mR_at (mrgRL _) vX5_feed rfl (tb_5 163 (by decide +kernel)) (recR rfl) (by decide) (Nat.le_of_ble_eq_true rfl) dL_law_1060 rfl ?_
  rintro _ M2 ⟨rfl, hR2⟩
  refine L_icmp_eq dL_law_1063 (tgt := 1450) (by decide) rfl ?_
  exact k _ _ ⟨rc_both hR1, rr_both hR2, hI2⟩
theorem law_wipe {L : Nat} {xs : Nat → Int32} {i : Nat} {M σ : Mem} (hL : L ≤ 3072) (hi : i + 6 ≤ L) (hF : LI M σ) (hI2 : Inv (opWipe σ).2) (k : ∀ M2 σ2, LI M2 σ2 → GL L xs 1450 (lsL i) [] M2) : GL L xs 1068 (lsL i) [] M := by
  obtain ⟨hR, hR5, hI⟩ := hF
  refine L_aload_n dL_law_1068 (i := 1) (x := 0) rfl rfl ?_
  refine L_callV (n := 0) mX4_wipe shC (fun j => j) (mgC M) 8 0 [] [] (cl_wipe hR hI (fun _ _ h => h)) subCL (fun _ _ => rfl) (mrgCL M) vX4_wipe rfl (tb_3 20 (by decide +kernel)) (recC rfl) (by decide) (Nat.le_of_ble_eq_true rfl) dL_law_1069 rfl ?_
  rintro _ M1 ⟨rfl, hR1⟩
  refine L_aload_n dL_law_1072 (i := 2) (x := 69) rfl rfl ?_
  refine L_callV (n := 0) mX5_wipe shR iR (mgR (mgC M M1)) 8 0 [] [.int (opWipe σ).1] (rf_wipe (rr_mg hR5) hI (fun _ _ h => h)) subRL mR_at (mrgRL _) vX5_wipe rfl (tb_5 167 (by decide +kernel)) (recR rfl) (by decide) (Nat.le_of_ble_eq_true rfl) dL_law_1073 rfl ?_
  rintro _ M2 ⟨rfl, hR2⟩
  refine L_icmp_eq dL_law_1076 (tgt := 1450) (by decide) rfl ?_
  exact k _ _ ⟨rc_both hR1, rr_both hR2, hI2⟩
theorem law_text {L : Nat} {xs : Nat → Int32} {i : Nat} {M σ : Mem} (hL : L ≤ 3072) (hi : i + 6 ≤ L) (hF : LI M σ) (hI2 : Inv (opText σ).2) (k : ∀ M2 σ2, LI M2 σ2 → GL L xs 1450 (lsL i) [] M2) : GL L xs 1081 (lsL i) [] M := by
  obtain ⟨hR, hR5, hI⟩ := hF
  refine L_aload_n dL_law_1081 (i := 1) (x := 0) rfl rfl ?_
  refine L_callV (n := 0) mX4_text shC (fun j => j) (mgC M) 12 0 [] [] (cl_text hR hI (fun _ _ h => h)) subCL (fun _ _ => rfl) (mrgCL M) vX4_text rfl (tb_3 24 (by decide +kernel)) (recC rfl) (by decide) (Nat.le_of_ble_eq_true rfl) dL_law_1082 rfl ?_
  rintro _ M1 ⟨rfl, hR1⟩
  refine L_aload_n dL_law_1085 (i := 2) (x := 69) rfl rfl ?_
  refine L_callV (n := 0) mX5_text shR iR (mgR (mgC M M1)) 12 0 [] [.int (opText σ).1] (rf_text (rr_mg hR5) hI (fun _ _ h => h)) subRL mR_at (mrgRL _) vX5_text rfl (tb_5 171 (by decide +kernel)) (recR rfl) (by decide) (Nat.le_of_ble_eq_true rfl) dL_law_1086 rfl ?_
  rintro _ M2 ⟨rfl, hR2⟩
  refine L_icmp_eq dL_law_1089 (tgt := 1450) (by decide) rfl ?_
  exact k _ _ ⟨rc_both hR1, rr_both hR2, hI2⟩
theorem law_hold {L : Nat} {xs : Nat → Int32} {i : Nat} {M σ : Mem} (hL : L ≤ 3072) (hi : i + 6 ≤ L) (hF : LI M σ) (hI2 : Inv (opHold σ (xs (i + 1)) (xs (i + 2))).2) (k : ∀ M2 σ2, LI M2 σ2 → GL L xs 1450 (lsL i) [] M2) : GL L xs 1094 (lsL i) [] M := by
  obtain ⟨hR, hR5, hI⟩ := hF
  refine L_aload_n dL_law_1094 (i := 1) (x := 0) rfl rfl ?_
  refine L_arg 1 dL_law_1095 dL_law_1096 dL_law_1097 dL_law_1098 dL_law_1099 rfl rfl (by omega) hL ?_
  refine L_arg 2 dL_law_1100 dL_law_1101 dL_law_1102 dL_law_1103 dL_law_1104 rfl rfl (by omega) hL ?_
  refine L_callV (n := 2) mX4_hold shC (fun j => j) (mgC M) 8 0 [.int (xs (i + 1)), .int (xs (i + 2))] [] (cl_hold hR hI (fun _ _ h => h)) subCL (fun _ _ => rfl) (mrgCL M) vX4_hold rfl (tb_3 146 (by decide +kernel)) (recC rfl) (by decide) (Nat.le_of_ble_eq_true rfl) dL_law_1105 rfl ?_
  rintro _ M1 ⟨rfl, hR1⟩
  refine L_aload_n dL_law_1108 (i := 2) (x := 69) rfl rfl ?_
  refine L_arg 1 dL_law_1109 dL_law_1110 dL_law_1111 dL_law_1112 dL_law_1113 rfl rfl (by omega) hL ?_
  refine L_arg 2 dL_law_1114 dL_law_1115 dL_law_1116 dL_law_1117 dL_law_1118 rfl rfl (by omega) hL ?_
  refine L_callV (n := 2) mX5_hold shR iR (mgR (mgC M M1)) 8 0 [.int (xs (i + 1)), .int (xs (i + 2))] [.int (opHold σ (xs (i + 1)) (xs (i + 2))).1] (rf_hold (rr_mg hR5) hI (fun _ _ h => h)) subRL mR_at (mrgRL _) vX5_hold rfl (tb_5 220 (by decide +kernel)) (recR rfl) (by decide) (Nat.le_of_ble_eq_true rfl) dL_law_1119 rfl ?_
  rintro _ M2 ⟨rfl, hR2⟩
  refine L_icmp_eq dL_law_1122 (tgt := 1450) (by decide) rfl ?_
  exact k _ _ ⟨rc_both hR1, rr_both hR2, hI2⟩
theorem law_as {L : Nat} {xs : Nat → Int32} {i : Nat} {M σ : Mem} (hL : L ≤ 3072) (hi : i + 6 ≤ L) (hF : LI M σ) (hI2 : Inv (opAs σ (xs (i + 1)) (xs (i + 2))).2) (k : ∀ M2 σ2, LI M2 σ2 → GL L xs 1450 (lsL i) [] M2) : GL L xs 1127 (lsL i) [] M := by
  obtain ⟨hR, hR5, hI⟩ := hF
  refine L_aload_n dL_law_1127 (i := 1) (x := 0) rfl rfl ?_
  refine L_arg 1 dL_law_1128 dL_law_1129 dL_law_1130 dL_law_1131 dL_law_1132 rfl rfl (by omega) hL ?_
  refine L_arg 2 dL_law_1133 dL_law_1134 dL_law_1135 dL_law_1136 dL_law_1137 rfl rfl (by omega) hL ?_
  refine L_callV (n := 2) mX4_as shC (fun j => j) (mgC M) 8 0 [.int (xs (i + 1)), .int (xs (i + 2))] [] (cl_as hR hI (fun _ _ h => h)) subCL (fun _ _ => rfl) (mrgCL M) vX4_as rfl (tb_3 153 (by decide +kernel)) (recC rfl) (by decide) (Nat.le_of_ble_eq_true rfl) dL_law_1138 rfl ?_
  rintro _ M1 ⟨rfl, hR1⟩
  refine L_aload_n dL_law_1141 (i := 2) (x := 69) rfl rfl ?_
  refine L_arg 1 dL_law_1142 dL_law_1143 dL_law_1144 dL_law_1145 dL_law_1146 rfl rfl (by omega) hL ?_
  refine L_arg 2 dL_law_1147 dL_law_1148 dL_law_1149 dL_law_1150 dL_law_1151 rfl rfl (by omega) hL ?_
  refine L_callV (n := 2) mX5_as shR iR (mgR (mgC M M1)) 8 0 [.int (xs (i + 1)), .int (xs (i + 2))] [.int (opAs σ (xs (i + 1)) (xs (i + 2))).1] (rf_as (rr_mg hR5) hI (fun _ _ h => h)) subRL mR_at (mrgRL _) vX5_as rfl (tb_5 227 (by decide +kernel)) (recR rfl) (by decide) (Nat.le_of_ble_eq_true rfl) dL_law_1152 rfl ?_
  rintro _ M2 ⟨rfl, hR2⟩
  refine L_icmp_eq dL_law_1155 (tgt := 1450) (by decide) rfl ?_
  exact k _ _ ⟨rc_both hR1, rr_both hR2, hI2⟩
theorem law_sheet {L : Nat} {xs : Nat → Int32} {i : Nat} {M σ : Mem} (hL : L ≤ 3072) (hi : i + 6 ≤ L) (hF : LI M σ) (hI2 : Inv (opSheet σ (xs (i + 1)) (xs (i + 2)) (xs (i + 3))).2) (k : ∀ M2 σ2, LI M2 σ2 → GL L xs 1450 (lsL i) [] M2) : GL L xs 1160 (lsL i) [] M := by
  obtain ⟨hR, hR5, hI⟩ := hF
  refine L_aload_n dL_law_1160 (i := 1) (x := 0) rfl rfl ?_
  refine L_arg 1 dL_law_1161 dL_law_1162 dL_law_1163 dL_law_1164 dL_law_1165 rfl rfl (by omega) hL ?_
  refine L_arg 2 dL_law_1166 dL_law_1167 dL_law_1168 dL_law_1169 dL_law_1170 rfl rfl (by omega) hL ?_
  refine L_arg 3 dL_law_1171 dL_law_1172 dL_law_1173 dL_law_1174 dL_law_1175 rfl rfl (by omega) hL ?_
  refine L_callV (n := 3) mX4_sheet shC (fun j => j) (mgC M) 8 0 [.int (xs (i + 1)), .int (xs (i + 2)), .int (xs (i + 3))] [] (cl_sheet hR hI (fun _ _ h => h)) subCL (fun _ _ => rfl) (mrgCL M) vX4_sheet rfl (tb_3 166 (by decide +kernel)) (recC rfl) (by decide) (Nat.le_of_ble_eq_true rfl) dL_law_1176 rfl ?_
  rintro _ M1 ⟨rfl, hR1⟩
  refine L_aload_n dL_law_1179 (i := 2) (x := 69) rfl rfl ?_
  refine L_arg 1 dL_law_1180 dL_law_1181 dL_law_1182 dL_law_1183 dL_law_1184 rfl rfl (by omega) hL ?_
  refine L_arg 2 dL_law_1185 dL_law_1186 dL_law_1187 dL_law_1188 dL_law_1189 rfl rfl (by omega) hL ?_
  refine L_arg 3 dL_law_1190 dL_law_1191 dL_law_1192 dL_law_1193 dL_law_1194 rfl rfl (by omega) hL ?_
  refine L_callV (n := 3) mX5_sheet shR iR (mgR (mgC M M1)) 8 0 [.int (xs (i + 1)), .int (xs (i + 2)), .int (xs (i + 3))] [.int (opSheet σ (xs (i + 1)) (xs (i + 2)) (xs (i + 3))).1] (rf_sheet (rr_mg hR5) hI (fun _ _ h => h)) subRL mR_at (mrgRL _) vX5_sheet rfl (tb_5 239 (by decide +kernel)) (recR rfl) (by decide) (Nat.le_of_ble_eq_true rfl) dL_law_1195 rfl ?_
  rintro _ M2 ⟨rfl, hR2⟩
  refine L_icmp_eq dL_law_1198 (tgt := 1450) (by decide) rfl ?_
  exact k _ _ ⟨rc_both hR1, rr_both hR2, hI2⟩
theorem law_write {L : Nat} {xs : Nat → Int32} {i : Nat} {M σ : Mem} (hL : L ≤ 3072) (hi : i + 6 ≤ L) (hF : LI M σ) (hI2 : Inv (opWrite σ (xs (i + 1)) (xs (i + 2)) (xs (i + 3))).2) (k : ∀ M2 σ2, LI M2 σ2 → GL L xs 1450 (lsL i) [] M2) : GL L xs 1203 (lsL i) [] M := by
  obtain ⟨hR, hR5, hI⟩ := hF
  refine L_aload_n dL_law_1203 (i := 1) (x := 0) rfl rfl ?_
  refine L_arg 1 dL_law_1204 dL_law_1205 dL_law_1206 dL_law_1207 dL_law_1208 rfl rfl (by omega) hL ?_
  refine L_arg 2 dL_law_1209 dL_law_1210 dL_law_1211 dL_law_1212 dL_law_1213 rfl rfl (by omega) hL ?_
  refine L_arg 3 dL_law_1214 dL_law_1215 dL_law_1216 dL_law_1217 dL_law_1218 rfl rfl (by omega) hL ?_
  refine L_callV (n := 3) mX4_write shC (fun j => j) (mgC M) 8 0 [.int (xs (i + 1)), .int (xs (i + 2)), .int (xs (i + 3))] [] (cl_write hR hI (fun _ _ h => h)) subCL (fun _ _ => rfl) (mrgCL M) vX4_write rfl (tb_3 179 (by decide +kernel)) (recC rfl) (by decide) (Nat.le_of_ble_eq_true rfl) dL_law_1219 rfl ?_
  rintro _ M1 ⟨rfl, hR1⟩
  refine L_aload_n dL_law_1222 (i := 2) (x := 69) rfl rfl ?_
  refine L_arg 1 dL_law_1223 dL_law_1224 dL_law_1225 dL_law_1226 dL_law_1227 rfl rfl (by omega) hL ?_
  refine L_arg 2 dL_law_1228 dL_law_1229 dL_law_1230 dL_law_1231 dL_law_1232 rfl rfl (by omega) hL ?_
  refine L_arg 3 dL_law_1233 dL_law_1234 dL_law_1235 dL_law_1236 dL_law_1237 rfl rfl (by omega) hL ?_
  refine L_callV (n := 3) mX5_write shR iR (mgR (mgC M M1)) 8 0 [.int (xs (i + 1)), .int (xs (i + 2)), .int (xs (i + 3))] [.int (opWrite σ (xs (i + 1)) (xs (i + 2)) (xs (i + 3))).1] (rf_write (rr_mg hR5) hI (fun _ _ h => h)) subRL mR_at (mrgRL _) vX5_write rfl (tb_6 7 (by decide +kernel)) (recR rfl) (by decide) (Nat.le_of_ble_eq_true rfl) dL_law_1238 rfl ?_
  rintro _ M2 ⟨rfl, hR2⟩
  refine L_icmp_eq dL_law_1241 (tgt := 1450) (by decide) rfl ?_
  exact k _ _ ⟨rc_both hR1, rr_both hR2, hI2⟩
theorem law_copy {L : Nat} {xs : Nat → Int32} {i : Nat} {M σ : Mem} (hL : L ≤ 3072) (hi : i + 6 ≤ L) (hF : LI M σ) (hI2 : Inv (opCopy σ (xs (i + 1)) (xs (i + 2)) (xs (i + 3)) (xs (i + 4)) (xs (i + 5))).2) (k : ∀ M2 σ2, LI M2 σ2 → GL L xs 1450 (lsL i) [] M2) : GL L xs 1246 (lsL i) [] M := by
  obtain ⟨hR, hR5, hI⟩ := hF
  refine L_aload_n dL_law_1246 (i := 1) (x := 0) rfl rfl ?_
  refine L_arg 1 dL_law_1247 dL_law_1248 dL_law_1249 dL_law_1250 dL_law_1251 rfl rfl (by omega) hL ?_
  refine L_arg 2 dL_law_1252 dL_law_1253 dL_law_1254 dL_law_1255 dL_law_1256 rfl rfl (by omega) hL ?_
  refine L_arg 3 dL_law_1257 dL_law_1258 dL_law_1259 dL_law_1260 dL_law_1261 rfl rfl (by omega) hL ?_
  refine L_arg 4 dL_law_1262 dL_law_1263 dL_law_1264 dL_law_1265 dL_law_1266 rfl rfl (by omega) hL ?_
  refine L_arg 5 dL_law_1267 dL_law_1268 dL_law_1269 dL_law_1270 dL_law_1271 rfl rfl (by omega) hL ?_
  refine L_callV (n := 5) mX4_copy shC (fun j => j) (mgC M) 8 0 [.int (xs (i + 1)), .int (xs (i + 2)), .int (xs (i + 3)), .int (xs (i + 4)), .int (xs (i + 5))] [] (cl_copy hR hI (fun _ _ h => h)) subCL (fun _ _ => rfl) (mrgCL M) vX4_copy rfl (tb_3 195 (by decide +kernel)) (recC rfl) (by decide) (Nat.le_of_ble_eq_true rfl) dL_law_1272 rfl ?_
  rintro _ M1 ⟨rfl, hR1⟩
  refine L_aload_n dL_law_1275 (i := 2) (x := 69) rfl rfl ?_
  refine L_arg 1 dL_law_1276 dL_law_1277 dL_law_1278 dL_law_1279 dL_law_1280 rfl rfl (by omega) hL ?_
  refine L_arg 2 dL_law_1281 dL_law_1282 dL_law_1283 dL_law_1284 dL_law_1285 rfl rfl (by omega) hL ?_
  refine L_arg 3 dL_law_1286 dL_law_1287 dL_law_1288 dL_law_1289 dL_law_1290 rfl rfl (by omega) hL ?_
  refine L_arg 4 dL_law_1291 dL_law_1292 dL_law_1293 dL_law_1294 dL_law_1295 rfl rfl (by omega) hL ?_
  refine L_arg 5 dL_law_1296 dL_law_1297 dL_law_1298 dL_law_1299 dL_law_1300 rfl rfl (by omega) hL ?_
  refine L_callV (n := 5) mX5_copy shR iR (mgR (mgC M M1)) 8 0 [.int (xs (i + 1)), .int (xs (i + 2)), .int (xs (i + 3)), .int (xs (i + 4)), .int (xs (i + 5))] [.int (opCopy σ (xs (i + 1)) (xs (i + 2)) (xs (i + 3)) (xs (i + 4)) (xs (i + 5))).1] (rf_copy (rr_mg hR5) hI (fun _ _ h => h)) subRL mR_at (mrgRL _) vX5_copy rfl (tb_6 14 (by decide +kernel)) (recR rfl) (by decide) (Nat.le_of_ble_eq_true rfl) dL_law_1301 rfl ?_
  rintro _ M2 ⟨rfl, hR2⟩
  refine L_icmp_eq dL_law_1304 (tgt := 1450) (by decide) rfl ?_
  exact k _ _ ⟨rc_both hR1, rr_both hR2, hI2⟩
theorem law_load {L : Nat} {xs : Nat → Int32} {i : Nat} {M σ : Mem} (hL : L ≤ 3072) (hi : i + 6 ≤ L) (hF : LI M σ) (hI2 : Inv (opLoad σ (xs (i + 1))).2) (k : ∀ M2 σ2, LI M2 σ2 → GL L xs 1450 (lsL i) [] M2) : GL L xs 1309 (lsL i) [] M := by
  obtain ⟨hR, hR5, hI⟩ := hF
  refine L_aload_n dL_law_1309 (i := 1) (x := 0) rfl rfl ?_
  refine L_arg 1 dL_law_1310 dL_law_1311 dL_law_1312 dL_law_1313 dL_law_1314 rfl rfl (by omega) hL ?_
  refine L_callV (n := 1) mX4_load shC (fun j => j) (mgC M) 8 0 [.int (xs (i + 1))] [] (cl_load hR hI (fun _ _ h => h)) subCL (fun _ _ => rfl) (mrgCL M) vX4_load rfl (tb_3 200 (by decide +kernel)) (recC rfl) (by decide) (Nat.le_of_ble_eq_true rfl) dL_law_1315 rfl ?_
  rintro _ M1 ⟨rfl, hR1⟩
  refine L_aload_n dL_law_1318 (i := 2) (x := 69) rfl rfl ?_
  refine L_arg 1 dL_law_1319 dL_law_1320 dL_law_1321 dL_law_1322 dL_law_1323 rfl rfl (by omega) hL ?_
  refine L_callV (n := 1) mX5_load shR iR (mgR (mgC M M1)) 8 0 [.int (xs (i + 1))] [.int (opLoad σ (xs (i + 1))).1] (rf_load (rr_mg hR5) hI (fun _ _ h => h)) subRL mR_at (mrgRL _) vX5_load rfl (tb_6 18 (by decide +kernel)) (recR rfl) (by decide) (Nat.le_of_ble_eq_true rfl) dL_law_1324 rfl ?_
  rintro _ M2 ⟨rfl, hR2⟩
  refine L_icmp_eq dL_law_1327 (tgt := 1450) (by decide) rfl ?_
  exact k _ _ ⟨rc_both hR1, rr_both hR2, hI2⟩
theorem law_judge {L : Nat} {xs : Nat → Int32} {i : Nat} {M σ : Mem} (hL : L ≤ 3072) (hi : i + 6 ≤ L) (hF : LI M σ) (hI2 : Inv (opJudge σ (xs (i + 1)) (xs (i + 2))).2) (k : ∀ M2 σ2, LI M2 σ2 → GL L xs 1450 (lsL i) [] M2) : GL L xs 1332 (lsL i) [] M := by
  obtain ⟨hR, hR5, hI⟩ := hF
  refine L_aload_n dL_law_1332 (i := 1) (x := 0) rfl rfl ?_
  refine L_arg 1 dL_law_1333 dL_law_1334 dL_law_1335 dL_law_1336 dL_law_1337 rfl rfl (by omega) hL ?_
  refine L_arg 2 dL_law_1338 dL_law_1339 dL_law_1340 dL_law_1341 dL_law_1342 rfl rfl (by omega) hL ?_
  refine L_callV (n := 2) mX4_judge shC (fun j => j) (mgC M) 8 0 [.int (xs (i + 1)), .int (xs (i + 2))] [] (cl_judge hR hI (fun _ _ h => h)) subCL (fun _ _ => rfl) (mrgCL M) vX4_judge rfl (tb_3 204 (by decide +kernel)) (recC rfl) (by decide) (Nat.le_of_ble_eq_true rfl) dL_law_1343 rfl ?_
  rintro _ M1 ⟨rfl, hR1⟩
  refine L_aload_n dL_law_1346 (i := 2) (x := 69) rfl rfl ?_
  refine L_arg 1 dL_law_1347 dL_law_1348 dL_law_1349 dL_law_1350 dL_law_1351 rfl rfl (by omega) hL ?_
  refine L_arg 2 dL_law_1352 dL_law_1353 dL_law_1354 dL_law_1355 dL_law_1356 rfl rfl (by omega) hL ?_
  refine L_callV (n := 2) mX5_judge shR iR (mgR (mgC M M1)) 8 0 [.int (xs (i + 1)), .int (xs (i + 2))] [.int (opJudge σ (xs (i + 1)) (xs (i + 2))).1] (rf_judge (rr_mg hR5) hI (fun _ _ h => h)) subRL mR_at (mrgRL _) vX5_judge rfl (tb_6 22 (by decide +kernel)) (recR rfl) (by decide) (Nat.le_of_ble_eq_true rfl) dL_law_1357 rfl ?_
  rintro _ M2 ⟨rfl, hR2⟩
  refine L_icmp_eq dL_law_1360 (tgt := 1450) (by decide) rfl ?_
  exact k _ _ ⟨rc_both hR1, rr_both hR2, hI2⟩
theorem law_image {L : Nat} {xs : Nat → Int32} {i : Nat} {M σ : Mem} (hL : L ≤ 3072) (hi : i + 6 ≤ L) (hF : LI M σ) (hI2 : Inv (opImage σ).2) (k : ∀ M2 σ2, LI M2 σ2 → GL L xs 1450 (lsL i) [] M2) : GL L xs 1365 (lsL i) [] M := by
  obtain ⟨hR, hR5, hI⟩ := hF
  refine L_aload_n dL_law_1365 (i := 1) (x := 0) rfl rfl ?_
  refine L_callV (n := 0) mX4_image shC (fun j => j) (mgC M) 8 0 [] [] (cl_image hR hI (fun _ _ h => h)) subCL (fun _ _ => rfl) (mrgCL M) vX4_image rfl (tb_3 208 (by decide +kernel)) (recC rfl) (by decide) (Nat.le_of_ble_eq_true rfl) dL_law_1366 rfl ?_
  rintro _ M1 ⟨rfl, hR1⟩
  refine L_aload_n dL_law_1369 (i := 2) (x := 69) rfl rfl ?_
  refine L_callV (n := 0) mX5_image shR iR (mgR (mgC M M1)) 8 0 [] [.int (opImage σ).1] (rf_image (rr_mg hR5) hI (fun _ _ h => h)) subRL mR_at (mrgRL _) vX5_image rfl (tb_6 26 (by decide +kernel)) (recR rfl) (by decide) (Nat.le_of_ble_eq_true rfl) dL_law_1370 rfl ?_
  rintro _ M2 ⟨rfl, hR2⟩
  refine L_icmp_eq dL_law_1373 (tgt := 1450) (by decide) rfl ?_
  exact k _ _ ⟨rc_both hR1, rr_both hR2, hI2⟩
theorem law_undo {L : Nat} {xs : Nat → Int32} {i : Nat} {M σ : Mem} (hL : L ≤ 3072) (hi : i + 6 ≤ L) (hF : LI M σ) (hI2 : Inv (opUndo σ).2) (k : ∀ M2 σ2, LI M2 σ2 → GL L xs 1450 (lsL i) [] M2) : GL L xs 1378 (lsL i) [] M := by
  obtain ⟨hR, hR5, hI⟩ := hF
  refine L_aload_n dL_law_1378 (i := 1) (x := 0) rfl rfl ?_
  refine L_callV (n := 0) mX4_undo shC (fun j => j) (mgC M) 8 0 [] [] (cl_undo hR hI (fun _ _ h => h)) subCL (fun _ _ => rfl) (mrgCL M) vX4_undo rfl (tb_3 212 (by decide +kernel)) (recC rfl) (by decide) (Nat.le_of_ble_eq_true rfl) dL_law_1379 rfl ?_
  rintro _ M1 ⟨rfl, hR1⟩
  refine L_aload_n dL_law_1382 (i := 2) (x := 69) rfl rfl ?_
  refine L_callV (n := 0) mX5_undo shR iR (mgR (mgC M M1)) 8 0 [] [.int (opUndo σ).1] (rf_undo (rr_mg hR5) hI (fun _ _ h => h)) subRL mR_at (mrgRL _) vX5_undo rfl (tb_6 30 (by decide +kernel)) (recR rfl) (by decide) (Nat.le_of_ble_eq_true rfl) dL_law_1383 rfl ?_
  rintro _ M2 ⟨rfl, hR2⟩
  refine L_icmp_eq dL_law_1386 (tgt := 1450) (by decide) rfl ?_
  exact k _ _ ⟨rc_both hR1, rr_both hR2, hI2⟩
theorem law_tear {L : Nat} {xs : Nat → Int32} {i : Nat} {M σ : Mem} (hL : L ≤ 3072) (hi : i + 6 ≤ L) (hF : LI M σ) (hI2 : Inv (opTear σ).2) (k : ∀ M2 σ2, LI M2 σ2 → GL L xs 1450 (lsL i) [] M2) : GL L xs 1391 (lsL i) [] M := by
  obtain ⟨hR, hR5, hI⟩ := hF
  refine L_aload_n dL_law_1391 (i := 1) (x := 0) rfl rfl ?_
  refine L_callV (n := 0) mX4_tear shC (fun j => j) (mgC M) 8 0 [] [] (cl_tear hR hI (fun _ _ h => h)) subCL (fun _ _ => rfl) (mrgCL M) vX4_tear rfl (tb_3 216 (by decide +kernel)) (recC rfl) (by decide) (Nat.le_of_ble_eq_true rfl) dL_law_1392 rfl ?_
  rintro _ M1 ⟨rfl, hR1⟩
  refine L_aload_n dL_law_1395 (i := 2) (x := 69) rfl rfl ?_
  refine L_callV (n := 0) mX5_tear shR iR (mgR (mgC M M1)) 8 0 [] [.int (opTear σ).1] (rf_tear (rr_mg hR5) hI (fun _ _ h => h)) subRL mR_at (mrgRL _) vX5_tear rfl (tb_6 34 (by decide +kernel)) (recR rfl) (by decide) (Nat.le_of_ble_eq_true rfl) dL_law_1396 rfl ?_
  rintro _ M2 ⟨rfl, hR2⟩
  refine L_icmp_eq dL_law_1399 (tgt := 1450) (by decide) rfl ?_
  exact k _ _ ⟨rc_both hR1, rr_both hR2, hI2⟩
theorem law_count {L : Nat} {xs : Nat → Int32} {i : Nat} {M σ : Mem} (hL : L ≤ 3072) (hi : i + 6 ≤ L) (hF : LI M σ) (hI2 : Inv (opCount σ (xs (i + 1))).2) (k : ∀ M2 σ2, LI M2 σ2 → GL L xs 1450 (lsL i) [] M2) : GL L xs 1404 (lsL i) [] M := by
  obtain ⟨hR, hR5, hI⟩ := hF
  refine L_aload_n dL_law_1404 (i := 1) (x := 0) rfl rfl ?_
  refine L_arg 1 dL_law_1405 dL_law_1406 dL_law_1407 dL_law_1408 dL_law_1409 rfl rfl (by omega) hL ?_
  refine L_callV (n := 1) mX4_count shC (fun j => j) (mgC M) 8 0 [.int (xs (i + 1))] [] (cl_count hR hI (fun _ _ h => h)) subCL (fun _ _ => rfl) (mrgCL M) vX4_count rfl (tb_3 220 (by decide +kernel)) (recC rfl) (by decide) (Nat.le_of_ble_eq_true rfl) dL_law_1410 rfl ?_
  rintro _ M1 ⟨rfl, hR1⟩
  refine L_aload_n dL_law_1413 (i := 2) (x := 69) rfl rfl ?_
  refine L_arg 1 dL_law_1414 dL_law_1415 dL_law_1416 dL_law_1417 dL_law_1418 rfl rfl (by omega) hL ?_
  refine L_callV (n := 1) mX5_count shR iR (mgR (mgC M M1)) 8 0 [.int (xs (i + 1))] [.int (opCount σ (xs (i + 1))).1] (rf_count (rr_mg hR5) hI (fun _ _ h => h)) subRL mR_at (mrgRL _) vX5_count rfl (tb_6 38 (by decide +kernel)) (recR rfl) (by decide) (Nat.le_of_ble_eq_true rfl) dL_law_1419 rfl ?_
  rintro _ M2 ⟨rfl, hR2⟩
  refine L_icmp_eq dL_law_1422 (tgt := 1450) (by decide) rfl ?_
  exact k _ _ ⟨rc_both hR1, rr_both hR2, hI2⟩
theorem law_status {L : Nat} {xs : Nat → Int32} {i : Nat} {M σ : Mem} (hL : L ≤ 3072) (hi : i + 6 ≤ L) (hF : LI M σ) (hI2 : Inv (opStatus σ (xs (i + 1))).2) (k : ∀ M2 σ2, LI M2 σ2 → GL L xs 1450 (lsL i) [] M2) : GL L xs 1427 (lsL i) [] M := by
  obtain ⟨hR, hR5, hI⟩ := hF
  refine L_aload_n dL_law_1427 (i := 1) (x := 0) rfl rfl ?_
  refine L_arg 1 dL_law_1428 dL_law_1429 dL_law_1430 dL_law_1431 dL_law_1432 rfl rfl (by omega) hL ?_
  refine L_callV (n := 1) mX4_status shC (fun j => j) (mgC M) 8 0 [.int (xs (i + 1))] [] (cl_status hR hI (fun _ _ h => h)) subCL (fun _ _ => rfl) (mrgCL M) vX4_status rfl (tb_3 228 (by decide +kernel)) (recC rfl) (by decide) (Nat.le_of_ble_eq_true rfl) dL_law_1433 rfl ?_
  rintro _ M1 ⟨rfl, hR1⟩
  refine L_aload_n dL_law_1436 (i := 2) (x := 69) rfl rfl ?_
  refine L_arg 1 dL_law_1437 dL_law_1438 dL_law_1439 dL_law_1440 dL_law_1441 rfl rfl (by omega) hL ?_
  refine L_callV (n := 1) mX5_status shR iR (mgR (mgC M M1)) 8 0 [.int (xs (i + 1))] [.int (opStatus σ (xs (i + 1))).1] (rf_status (rr_mg hR5) hI (fun _ _ h => h)) subRL mR_at (mrgRL _) vX5_status rfl (tb_6 42 (by decide +kernel)) (recR rfl) (by decide) (Nat.le_of_ble_eq_true rfl) dL_law_1442 rfl ?_
  rintro _ M2 ⟨rfl, hR2⟩
  refine L_icmp_eq dL_law_1445 (tgt := 1450) (by decide) rfl ?_
  exact k _ _ ⟨rc_both hR1, rr_both hR2, hI2⟩
