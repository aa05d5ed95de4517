/-! ===== the law, case by case ===== -/
section LAWC
variable {p : Program} {l : Launch} {e : Env} {s : State} {m : MethodId} {below : List Frame} {meth : Method} {c : Code} {H : Heap} {locs : List Loc} {cells slots : Nat} {Q : State → Prop}
variable {ls : Array Slot} {g : EG} {b L : Nat} {xs : Nat → Int32} {ad : Nat → Nat → Nat} {ma : Nat → Nat} {ou od : Nat} {σ τ : Sg} {u : Nat → Int64} {i : Nat}
set_option maxHeartbeats 4000000 in
theorem lc_addRecipe (F : LAWF g p s m c b L xs) (hst : l.stackTraces = false) (hL : L ≤ 3072) (hi : i + 6 ≤ L) (hI : INV σ) (hJ : LJ g s.heap.size ad ma ou od σ u τ σ u s.heap H locs) (hf : cells + 20 ≤ room_1.cells ∧ slots + 200 ≤ room_1.slots) (hl : LOC ls b (ad 0 0) (ma 0) ou od i) (kk : KNT p l e s m b below meth c cells slots Q g (ad 0 0) ma ou od i) : W p l e room_1 s m #[Value.ref b] below meth c H locs cells slots Q (F0 m 236 ls []) := by
  have hx := F.1
  have hb := F.2.1
  refine lv_aload_n hx hb dL_law_236 rfl (lv_at hl 4 rfl) ?_
  refine lw_arg (k := 1) F hJ.2.2.2.2 hL hi (by decide) rfl (lv_at hl 5 rfl) (lv_at hl 0 rfl) dL_law_237 dL_law_238 dL_law_240 dL_law_241 dL_law_242 ?_
  refine lw_arg (k := 2) F hJ.2.2.2.2 hL hi (by decide) rfl (lv_at hl 5 rfl) (lv_at hl 0 rfl) dL_law_243 dL_law_244 dL_law_246 dL_law_247 dL_law_248 ?_
  refine lw_arg (k := 3) F hJ.2.2.2.2 hL hi (by decide) rfl (lv_at hl 5 rfl) (lv_at hl 0 rfl) dL_law_249 dL_law_250 dL_law_252 dL_law_253 dL_law_254 ?_
  refine lv_aload_n hx hb dL_law_255 rfl (lv_at hl 2 rfl) ?_
  refine lw_wrap (oc := ou) (n := 5) (t := (t_addRecipe σ (xs (i + 1)) (xs (i + 2)) (xs (i + 3)))) (Fσ := (F_addRecipe σ (xs (i + 1)) (xs (i + 2)) (xs (i + 3)))) (Fu := u) (N := ANL g ou ((σ 1 0).toInt64)) (As := [.ref (ad 0 0), .int (xs (i + 1)), .int (xs (i + 2)), .int (xs (i + 3)), .ref ou]) (rest := []) F hJ (qL_addRecipe l hst g s.heap.size ad σ u τ hI hJ.1.2 ou hJ.lo1 hJ.hO (xs (i + 1)) (xs (i + 2)) (xs (i + 3))) (fun U hU hE => ⟨by rw [hU]; exact hJ.1.1, by rw [hU]; exact hJ.2.2.1.1, hE⟩) (fun U a g9 mk q => ⟨q.1, q.2.1, q.2.2.calling g9 mk a⟩) (fun H1 L1 h1 h2 h3 => pw_add (fun h => n_addRecipe h) hJ h1 h2 h3) gL_law_L_addRecipe rfl rfl rfl (by decide +kernel) ⟨Nat.le_of_ble_eq_true rfl, Nat.le_of_ble_eq_true rfl⟩ rfl hl.1 rfl (Nat.le_of_ble_eq_true rfl) dL_law_256 ⟨by omega, by omega⟩ (fun H1 locs1 hP => ?_)
  obtain ⟨ad1, τ1, ha1, hJ1, hN1⟩ := hP
  refine lv_istore hx hb dL_law_259 hl (by decide) rfl (fun ls hl => ?_)
  refine lv_aload_n hx hb dL_law_261 rfl (lv_at hl 4 rfl) ?_
  refine lw_arg (k := 1) F hJ1.2.2.2.2 hL hi (by decide) rfl (lv_at hl 6 rfl) (lv_at hl 1 rfl) dL_law_262 dL_law_263 dL_law_265 dL_law_266 dL_law_267 ?_
  refine lw_arg (k := 2) F hJ1.2.2.2.2 hL hi (by decide) rfl (lv_at hl 6 rfl) (lv_at hl 1 rfl) dL_law_268 dL_law_269 dL_law_271 dL_law_272 dL_law_273 ?_
  refine lw_arg (k := 3) F hJ1.2.2.2.2 hL hi (by decide) rfl (lv_at hl 6 rfl) (lv_at hl 1 rfl) dL_law_274 dL_law_275 dL_law_277 dL_law_278 dL_law_279 ?_
  refine lw_mod (H0 := s.heap) (n := 3) (As := [.int (xs (i + 1)), .int (xs (i + 2)), .int (xs (i + 3))]) (rest := []) (v := [.int (if t_addRecipe σ (xs (i + 1)) (xs (i + 2)) (xs (i + 3)) = 0 then σ 1 0 else 0)]) F hJ1 (k_addRecipe l g s.heap.size ma hJ1.2.1.2 σ u (xs (i + 1)) (xs (i + 2)) (xs (i + 3)) hI) gL_law_X7_addRecipe rfl rfl rfl (by decide +kernel) ⟨Nat.le_of_ble_eq_true rfl, Nat.le_of_ble_eq_true rfl⟩ rfl hl.1 rfl (Nat.le_of_ble_eq_true rfl) dL_law_280 ⟨by omega, by omega⟩ rfl (fun H2 locs2 hJ2 hk => ?_)
  exact lw_tailI F (i_addRecipe hI (xs (i + 1)) (xs (i + 2)) (xs (i + 3))) ha1 hJ2 (z_addRecipe σ (xs (i + 1)) (xs (i + 2)) (xs (i + 3))) (fun h => (hN1 h).kept (hk _ hJ1.mO)) (fun h => r_addRecipe hI (xs (i + 1)) (xs (i + 2)) (xs (i + 3)) h) hl dL_law_283 dL_law_285 dL_law_286 dL_law_289 dL_law_291 dL_law_296 dL_law_298 dL_law_301 dL_law_302 dL_law_303 dL_law_304 dL_law_306 dL_law_307 dL_law_308 dL_law_313 (by decide) ⟨by decide, by decide⟩ hf kk
set_option maxHeartbeats 4000000 in
theorem lc_setDye (F : LAWF g p s m c b L xs) (hst : l.stackTraces = false) (hL : L ≤ 3072) (hi : i + 6 ≤ L) (hI : INV σ) (hJ : LJ g s.heap.size ad ma ou od σ u τ σ u s.heap H locs) (hf : cells + 20 ≤ room_1.cells ∧ slots + 200 ≤ room_1.slots) (hl : LOC ls b (ad 0 0) (ma 0) ou od i) (kk : KNT p l e s m b below meth c cells slots Q g (ad 0 0) ma ou od i) : W p l e room_1 s m #[Value.ref b] below meth c H locs cells slots Q (F0 m 316 ls []) := by
  have hx := F.1
  have hb := F.2.1
  refine lv_aload_n hx hb dL_law_316 rfl (lv_at hl 4 rfl) ?_
  refine lw_arg (k := 1) F hJ.2.2.2.2 hL hi (by decide) rfl (lv_at hl 5 rfl) (lv_at hl 0 rfl) dL_law_317 dL_law_318 dL_law_320 dL_law_321 dL_law_322 ?_
  refine lw_arg (k := 2) F hJ.2.2.2.2 hL hi (by decide) rfl (lv_at hl 5 rfl) (lv_at hl 0 rfl) dL_law_323 dL_law_324 dL_law_326 dL_law_327 dL_law_328 ?_
  refine lw_arg (k := 3) F hJ.2.2.2.2 hL hi (by decide) rfl (lv_at hl 5 rfl) (lv_at hl 0 rfl) dL_law_329 dL_law_330 dL_law_332 dL_law_333 dL_law_334 ?_
  refine lv_aload_n hx hb dL_law_335 rfl (lv_at hl 2 rfl) ?_
  refine lw_wrap (oc := ou) (n := 5) (t := (t_setDye σ (xs (i + 1)) (xs (i + 2)) (xs (i + 3)))) (Fσ := (F_setDye σ (xs (i + 1)) (xs (i + 2)) (xs (i + 3)))) (Fu := u) (N := ANL g ou ((σ 6 (ti (3 * (xs (i + 1)) + (xs (i + 2))))).toInt64)) (As := [.ref (ad 0 0), .int (xs (i + 1)), .int (xs (i + 2)), .int (xs (i + 3)), .ref ou]) (rest := []) F hJ (qL_setDye l hst g s.heap.size ad σ u τ hI hJ.1.2 ou hJ.lo1 hJ.hO (xs (i + 1)) (xs (i + 2)) (xs (i + 3))) (fun U hU hE => ⟨by rw [hU]; exact hJ.1.1, by rw [hU]; exact hJ.2.2.1.1, hE⟩) (fun U a g9 mk q => ⟨q.1, q.2.1, q.2.2.calling g9 mk a⟩) (fun H1 L1 h1 h2 h3 => pw_mut (fun h => ⟨n_setDye h, rfl⟩) (x_setDye σ (xs (i + 1)) (xs (i + 2)) (xs (i + 3))) hJ h1 h2 h3) gL_law_L_setDye rfl rfl rfl (by decide +kernel) ⟨Nat.le_of_ble_eq_true rfl, Nat.le_of_ble_eq_true rfl⟩ rfl hl.1 rfl (Nat.le_of_ble_eq_true rfl) dL_law_336 ⟨by omega, by omega⟩ (fun H1 locs1 hP => ?_)
  obtain ⟨ad1, τ1, ha1, hJ1, hN1⟩ := hP
  refine lv_istore hx hb dL_law_339 hl (by decide) rfl (fun ls hl => ?_)
  refine lv_aload_n hx hb dL_law_341 rfl (lv_at hl 4 rfl) ?_
  refine lw_arg (k := 1) F hJ1.2.2.2.2 hL hi (by decide) rfl (lv_at hl 6 rfl) (lv_at hl 1 rfl) dL_law_342 dL_law_343 dL_law_345 dL_law_346 dL_law_347 ?_
  refine lw_arg (k := 2) F hJ1.2.2.2.2 hL hi (by decide) rfl (lv_at hl 6 rfl) (lv_at hl 1 rfl) dL_law_348 dL_law_349 dL_law_351 dL_law_352 dL_law_353 ?_
  refine lw_arg (k := 3) F hJ1.2.2.2.2 hL hi (by decide) rfl (lv_at hl 6 rfl) (lv_at hl 1 rfl) dL_law_354 dL_law_355 dL_law_357 dL_law_358 dL_law_359 ?_
  refine lw_mod (H0 := s.heap) (n := 3) (As := [.int (xs (i + 1)), .int (xs (i + 2)), .int (xs (i + 3))]) (rest := []) (v := [.int (if t_setDye σ (xs (i + 1)) (xs (i + 2)) (xs (i + 3)) = 0 then σ 6 (ti (3 * (xs (i + 1)) + (xs (i + 2)))) else 0)]) F hJ1 (k_setDye l g s.heap.size ma hJ1.2.1.2 σ u (xs (i + 1)) (xs (i + 2)) (xs (i + 3)) hI) gL_law_X7_setDye rfl rfl rfl (by decide +kernel) ⟨Nat.le_of_ble_eq_true rfl, Nat.le_of_ble_eq_true rfl⟩ rfl hl.1 rfl (Nat.le_of_ble_eq_true rfl) dL_law_360 ⟨by omega, by omega⟩ rfl (fun H2 locs2 hJ2 hk => ?_)
  exact lw_tailI F (i_setDye hI (xs (i + 1)) (xs (i + 2)) (xs (i + 3))) ha1 hJ2 (z_setDye σ (xs (i + 1)) (xs (i + 2)) (xs (i + 3))) (fun h => (hN1 h).kept (hk _ hJ1.mO)) (fun h => r_setDye hI (xs (i + 1)) (xs (i + 2)) (xs (i + 3)) h) hl dL_law_363 dL_law_365 dL_law_366 dL_law_369 dL_law_371 dL_law_376 dL_law_378 dL_law_381 dL_law_382 dL_law_383 dL_law_384 dL_law_386 dL_law_387 dL_law_388 dL_law_393 (by decide) ⟨by decide, by decide⟩ hf kk
set_option maxHeartbeats 4000000 in
theorem lc_supply (F : LAWF g p s m c b L xs) (hst : l.stackTraces = false) (hL : L ≤ 3072) (hi : i + 6 ≤ L) (hI : INV σ) (hJ : LJ g s.heap.size ad ma ou od σ u τ σ u s.heap H locs) (hf : cells + 20 ≤ room_1.cells ∧ slots + 200 ≤ room_1.slots) (hl : LOC ls b (ad 0 0) (ma 0) ou od i) (kk : KNT p l e s m b below meth c cells slots Q g (ad 0 0) ma ou od i) : W p l e room_1 s m #[Value.ref b] below meth c H locs cells slots Q (F0 m 396 ls []) := by
  have hx := F.1
  have hb := F.2.1
  refine lv_aload_n hx hb dL_law_396 rfl (lv_at hl 4 rfl) ?_
  refine lw_arg (k := 1) F hJ.2.2.2.2 hL hi (by decide) rfl (lv_at hl 5 rfl) (lv_at hl 0 rfl) dL_law_397 dL_law_398 dL_law_400 dL_law_401 dL_law_402 ?_
  refine lw_arg (k := 2) F hJ.2.2.2.2 hL hi (by decide) rfl (lv_at hl 5 rfl) (lv_at hl 0 rfl) dL_law_403 dL_law_404 dL_law_406 dL_law_407 dL_law_408 ?_
  refine lv_aload_n hx hb dL_law_409 rfl (lv_at hl 2 rfl) ?_
  refine lw_wrap (oc := ou) (n := 4) (t := (t_supply σ (xs (i + 1)) (xs (i + 2)))) (Fσ := (F_supply σ (xs (i + 1)) (xs (i + 2)))) (Fu := u) (N := ANL g ou ((σ 7 (ti (xs (i + 1))) + (xs (i + 2))).toInt64)) (As := [.ref (ad 0 0), .int (xs (i + 1)), .int (xs (i + 2)), .ref ou]) (rest := []) F hJ (qL_supply l hst g s.heap.size ad σ u τ hI hJ.1.2 ou hJ.lo1 hJ.hO (xs (i + 1)) (xs (i + 2))) (fun U hU hE => ⟨by rw [hU]; exact hJ.1.1, by rw [hU]; exact hJ.2.2.1.1, hE⟩) (fun U a g9 mk q => ⟨q.1, q.2.1, q.2.2.calling g9 mk a⟩) (fun H1 L1 h1 h2 h3 => pw_mut (fun h => ⟨n_supply h, rfl⟩) (x_supply σ (xs (i + 1)) (xs (i + 2))) hJ h1 h2 h3) gL_law_L_supply rfl rfl rfl (by decide +kernel) ⟨Nat.le_of_ble_eq_true rfl, Nat.le_of_ble_eq_true rfl⟩ rfl hl.1 rfl (Nat.le_of_ble_eq_true rfl) dL_law_410 ⟨by omega, by omega⟩ (fun H1 locs1 hP => ?_)
  obtain ⟨ad1, τ1, ha1, hJ1, hN1⟩ := hP
  refine lv_istore hx hb dL_law_413 hl (by decide) rfl (fun ls hl => ?_)
  refine lv_aload_n hx hb dL_law_415 rfl (lv_at hl 4 rfl) ?_
  refine lw_arg (k := 1) F hJ1.2.2.2.2 hL hi (by decide) rfl (lv_at hl 6 rfl) (lv_at hl 1 rfl) dL_law_416 dL_law_417 dL_law_419 dL_law_420 dL_law_421 ?_
  refine lw_arg (k := 2) F hJ1.2.2.2.2 hL hi (by decide) rfl (lv_at hl 6 rfl) (lv_at hl 1 rfl) dL_law_422 dL_law_423 dL_law_425 dL_law_426 dL_law_427 ?_
  refine lw_mod (H0 := s.heap) (n := 2) (As := [.int (xs (i + 1)), .int (xs (i + 2))]) (rest := []) (v := [.int (if t_supply σ (xs (i + 1)) (xs (i + 2)) = 0 then σ 7 (ti (xs (i + 1))) + (xs (i + 2)) else 0)]) F hJ1 (k_supply l g s.heap.size ma hJ1.2.1.2 σ u (xs (i + 1)) (xs (i + 2)) hI) gL_law_X7_supply rfl rfl rfl (by decide +kernel) ⟨Nat.le_of_ble_eq_true rfl, Nat.le_of_ble_eq_true rfl⟩ rfl hl.1 rfl (Nat.le_of_ble_eq_true rfl) dL_law_428 ⟨by omega, by omega⟩ rfl (fun H2 locs2 hJ2 hk => ?_)
  exact lw_tailI F (i_supply hI (xs (i + 1)) (xs (i + 2))) ha1 hJ2 (z_supply σ (xs (i + 1)) (xs (i + 2))) (fun h => (hN1 h).kept (hk _ hJ1.mO)) (fun h => r_supply hI (xs (i + 1)) (xs (i + 2)) h) hl dL_law_431 dL_law_433 dL_law_434 dL_law_437 dL_law_439 dL_law_444 dL_law_446 dL_law_449 dL_law_450 dL_law_451 dL_law_452 dL_law_454 dL_law_455 dL_law_456 dL_law_461 (by decide) ⟨by decide, by decide⟩ hf kk
set_option maxHeartbeats 4000000 in
theorem lc_stock (F : LAWF g p s m c b L xs) (hst : l.stackTraces = false) (hL : L ≤ 3072) (hi : i + 6 ≤ L) (hI : INV σ) (hJ : LJ g s.heap.size ad ma ou od σ u τ σ u s.heap H locs) (hf : cells + 20 ≤ room_1.cells ∧ slots + 200 ≤ room_1.slots) (hl : LOC ls b (ad 0 0) (ma 0) ou od i) (kk : KNT p l e s m b below meth c cells slots Q g (ad 0 0) ma ou od i) : W p l e room_1 s m #[Value.ref b] below meth c H locs cells slots Q (F0 m 464 ls []) := by
  have hx := F.1
  have hb := F.2.1
  refine lv_aload_n hx hb dL_law_464 rfl (lv_at hl 4 rfl) ?_
  refine lw_arg (k := 1) F hJ.2.2.2.2 hL hi (by decide) rfl (lv_at hl 5 rfl) (lv_at hl 0 rfl) dL_law_465 dL_law_466 dL_law_468 dL_law_469 dL_law_470 ?_
  refine lv_aload_n hx hb dL_law_471 rfl (lv_at hl 2 rfl) ?_
  refine lw_wrap (oc := ou) (n := 3) (t := (tD (xs (i + 1)))) (Fσ := (up σ 0 0 (tD (xs (i + 1))))) (Fu := u) (N := ANL g ou ((σ 7 (ti (xs (i + 1)))).toInt64)) (As := [.ref (ad 0 0), .int (xs (i + 1)), .ref ou]) (rest := []) F hJ (qL_stock l hst g s.heap.size ad σ u τ hI hJ.1.2 ou hJ.lo1 hJ.hO (xs (i + 1))) (fun U hU hE => ⟨by rw [hU]; exact hJ.1.1, by rw [hU]; exact hJ.2.2.1.1, hE⟩) (fun U a g9 mk q => ⟨q.1, q.2.1, q.2.2.calling g9 mk a⟩) (fun H1 L1 h1 h2 h3 => pw_ro (SMR.u0 _ _) hJ h1 h2 h3) gL_law_L_stock rfl rfl rfl (by decide +kernel) ⟨Nat.le_of_ble_eq_true rfl, Nat.le_of_ble_eq_true rfl⟩ rfl hl.1 rfl (Nat.le_of_ble_eq_true rfl) dL_law_472 ⟨by omega, by omega⟩ (fun H1 locs1 hP => ?_)
  obtain ⟨ad1, τ1, ha1, hJ1, hN1⟩ := hP
  refine lv_istore hx hb dL_law_475 hl (by decide) rfl (fun ls hl => ?_)
  refine lv_aload_n hx hb dL_law_477 rfl (lv_at hl 4 rfl) ?_
  refine lw_arg (k := 1) F hJ1.2.2.2.2 hL hi (by decide) rfl (lv_at hl 6 rfl) (lv_at hl 1 rfl) dL_law_478 dL_law_479 dL_law_481 dL_law_482 dL_law_483 ?_
  refine lw_mod (H0 := s.heap) (n := 1) (As := [.int (xs (i + 1))]) (rest := []) (v := [.int (if okD (xs (i + 1)) then σ 7 (ti (xs (i + 1))) else 0)]) F hJ1 (k_stock l g s.heap.size ma hJ1.2.1.2 σ u (xs (i + 1)) hI) gL_law_X7_stock rfl rfl rfl (by decide +kernel) ⟨Nat.le_of_ble_eq_true rfl, Nat.le_of_ble_eq_true rfl⟩ rfl hl.1 rfl (Nat.le_of_ble_eq_true rfl) dL_law_484 ⟨by omega, by omega⟩ rfl (fun H2 locs2 hJ2 hk => ?_)
  exact lw_tailI F (i_stock hI (xs (i + 1))) ha1 hJ2 (z_stock σ (xs (i + 1))) (fun h => (hN1 h).kept (hk _ hJ1.mO)) (fun h => r_stock hI (xs (i + 1)) h) hl dL_law_487 dL_law_489 dL_law_490 dL_law_493 dL_law_495 dL_law_500 dL_law_502 dL_law_505 dL_law_506 dL_law_507 dL_law_508 dL_law_510 dL_law_511 dL_law_512 dL_law_517 (by decide) ⟨by decide, by decide⟩ hf kk
set_option maxHeartbeats 4000000 in
theorem lc_addOrder (F : LAWF g p s m c b L xs) (hst : l.stackTraces = false) (hL : L ≤ 3072) (hi : i + 6 ≤ L) (hI : INV σ) (hJ : LJ g s.heap.size ad ma ou od σ u τ σ u s.heap H locs) (hf : cells + 20 ≤ room_1.cells ∧ slots + 200 ≤ room_1.slots) (hl : LOC ls b (ad 0 0) (ma 0) ou od i) (kk : KNT p l e s m b below meth c cells slots Q g (ad 0 0) ma ou od i) : W p l e room_1 s m #[Value.ref b] below meth c H locs cells slots Q (F0 m 520 ls []) := by
  have hx := F.1
  have hb := F.2.1
  refine lv_aload_n hx hb dL_law_520 rfl (lv_at hl 4 rfl) ?_
  refine lw_arg (k := 1) F hJ.2.2.2.2 hL hi (by decide) rfl (lv_at hl 5 rfl) (lv_at hl 0 rfl) dL_law_521 dL_law_522 dL_law_524 dL_law_525 dL_law_526 ?_
  refine lw_arg (k := 2) F hJ.2.2.2.2 hL hi (by decide) rfl (lv_at hl 5 rfl) (lv_at hl 0 rfl) dL_law_527 dL_law_528 dL_law_530 dL_law_531 dL_law_532 ?_
  refine lw_arg (k := 3) F hJ.2.2.2.2 hL hi (by decide) rfl (lv_at hl 5 rfl) (lv_at hl 0 rfl) dL_law_533 dL_law_534 dL_law_536 dL_law_537 dL_law_538 ?_
  refine lw_arg (k := 4) F hJ.2.2.2.2 hL hi (by decide) rfl (lv_at hl 5 rfl) (lv_at hl 0 rfl) dL_law_539 dL_law_540 dL_law_542 dL_law_543 dL_law_544 ?_
  refine lw_arg (k := 5) F hJ.2.2.2.2 hL hi (by decide) rfl (lv_at hl 5 rfl) (lv_at hl 0 rfl) dL_law_545 dL_law_546 dL_law_548 dL_law_549 dL_law_550 ?_
  refine lv_aload_n hx hb dL_law_551 rfl (lv_at hl 2 rfl) ?_
  refine lw_wrap (oc := ou) (n := 7) (t := (t_addOrder σ (xs (i + 1)) (xs (i + 2)) (xs (i + 3)) (xs (i + 4)) (xs (i + 5)))) (Fσ := (F_addOrder σ (xs (i + 1)) (xs (i + 2)) (xs (i + 3)) (xs (i + 4)) (xs (i + 5)))) (Fu := u) (N := ANL g ou ((σ 2 0).toInt64)) (As := [.ref (ad 0 0), .int (xs (i + 1)), .int (xs (i + 2)), .int (xs (i + 3)), .int (xs (i + 4)), .int (xs (i + 5)), .ref ou]) (rest := []) F hJ (qL_addOrder l hst g s.heap.size ad σ u τ hI hJ.1.2 ou hJ.lo1 hJ.hO (xs (i + 1)) (xs (i + 2)) (xs (i + 3)) (xs (i + 4)) (xs (i + 5))) (fun U hU hE => ⟨by rw [hU]; exact hJ.1.1, by rw [hU]; exact hJ.2.2.1.1, hE⟩) (fun U a g9 mk q => ⟨q.1, q.2.1, q.2.2.calling g9 mk a⟩) (fun H1 L1 h1 h2 h3 => pw_add (fun h => n_addOrder h) hJ h1 h2 h3) gL_law_L_addOrder rfl rfl rfl (by decide +kernel) ⟨Nat.le_of_ble_eq_true rfl, Nat.le_of_ble_eq_true rfl⟩ rfl hl.1 rfl (Nat.le_of_ble_eq_true rfl) dL_law_552 ⟨by omega, by omega⟩ (fun H1 locs1 hP => ?_)
  obtain ⟨ad1, τ1, ha1, hJ1, hN1⟩ := hP
  refine lv_istore hx hb dL_law_555 hl (by decide) rfl (fun ls hl => ?_)
  refine lv_aload_n hx hb dL_law_557 rfl (lv_at hl 4 rfl) ?_
  refine lw_arg (k := 1) F hJ1.2.2.2.2 hL hi (by decide) rfl (lv_at hl 6 rfl) (lv_at hl 1 rfl) dL_law_558 dL_law_559 dL_law_561 dL_law_562 dL_law_563 ?_
  refine lw_arg (k := 2) F hJ1.2.2.2.2 hL hi (by decide) rfl (lv_at hl 6 rfl) (lv_at hl 1 rfl) dL_law_564 dL_law_565 dL_law_567 dL_law_568 dL_law_569 ?_
  refine lw_arg (k := 3) F hJ1.2.2.2.2 hL hi (by decide) rfl (lv_at hl 6 rfl) (lv_at hl 1 rfl) dL_law_570 dL_law_571 dL_law_573 dL_law_574 dL_law_575 ?_
  refine lw_arg (k := 4) F hJ1.2.2.2.2 hL hi (by decide) rfl (lv_at hl 6 rfl) (lv_at hl 1 rfl) dL_law_576 dL_law_577 dL_law_579 dL_law_580 dL_law_581 ?_
  refine lw_arg (k := 5) F hJ1.2.2.2.2 hL hi (by decide) rfl (lv_at hl 6 rfl) (lv_at hl 1 rfl) dL_law_582 dL_law_583 dL_law_585 dL_law_586 dL_law_587 ?_
  refine lw_mod (H0 := s.heap) (n := 5) (As := [.int (xs (i + 1)), .int (xs (i + 2)), .int (xs (i + 3)), .int (xs (i + 4)), .int (xs (i + 5))]) (rest := []) (v := [.int (if t_addOrder σ (xs (i + 1)) (xs (i + 2)) (xs (i + 3)) (xs (i + 4)) (xs (i + 5)) = 0 then σ 2 0 else 0)]) F hJ1 (k_addOrder l g s.heap.size ma hJ1.2.1.2 σ u (xs (i + 1)) (xs (i + 2)) (xs (i + 3)) (xs (i + 4)) (xs (i + 5)) hI) gL_law_X7_addOrder rfl rfl rfl (by decide +kernel) ⟨Nat.le_of_ble_eq_true rfl, Nat.le_of_ble_eq_true rfl⟩ rfl hl.1 rfl (Nat.le_of_ble_eq_true rfl) dL_law_588 ⟨by omega, by omega⟩ rfl (fun H2 locs2 hJ2 hk => ?_)
  exact lw_tailI F (i_addOrder hI (xs (i + 1)) (xs (i + 2)) (xs (i + 3)) (xs (i + 4)) (xs (i + 5))) ha1 hJ2 (z_addOrder σ (xs (i + 1)) (xs (i + 2)) (xs (i + 3)) (xs (i + 4)) (xs (i + 5))) (fun h => (hN1 h).kept (hk _ hJ1.mO)) (fun h => r_addOrder hI (xs (i + 1)) (xs (i + 2)) (xs (i + 3)) (xs (i + 4)) (xs (i + 5)) h) hl dL_law_591 dL_law_593 dL_law_594 dL_law_597 dL_law_599 dL_law_604 dL_law_606 dL_law_609 dL_law_610 dL_law_611 dL_law_612 dL_law_614 dL_law_615 dL_law_616 dL_law_621 (by decide) ⟨by decide, by decide⟩ hf kk
set_option maxHeartbeats 4000000 in
theorem lc_addLot (F : LAWF g p s m c b L xs) (hst : l.stackTraces = false) (hL : L ≤ 3072) (hi : i + 6 ≤ L) (hI : INV σ) (hJ : LJ g s.heap.size ad ma ou od σ u τ σ u s.heap H locs) (hf : cells + 20 ≤ room_1.cells ∧ slots + 200 ≤ room_1.slots) (hl : LOC ls b (ad 0 0) (ma 0) ou od i) (kk : KNT p l e s m b below meth c cells slots Q g (ad 0 0) ma ou od i) : W p l e room_1 s m #[Value.ref b] below meth c H locs cells slots Q (F0 m 624 ls []) := by
  have hx := F.1
  have hb := F.2.1
  refine lv_aload_n hx hb dL_law_624 rfl (lv_at hl 4 rfl) ?_
  refine lw_arg (k := 1) F hJ.2.2.2.2 hL hi (by decide) rfl (lv_at hl 5 rfl) (lv_at hl 0 rfl) dL_law_625 dL_law_626 dL_law_628 dL_law_629 dL_law_630 ?_
  refine lw_arg (k := 2) F hJ.2.2.2.2 hL hi (by decide) rfl (lv_at hl 5 rfl) (lv_at hl 0 rfl) dL_law_631 dL_law_632 dL_law_634 dL_law_635 dL_law_636 ?_
  refine lv_aload_n hx hb dL_law_637 rfl (lv_at hl 2 rfl) ?_
  refine lw_wrap (oc := ou) (n := 4) (t := (t_addLot σ (xs (i + 1)) (xs (i + 2)))) (Fσ := (F_addLot σ (xs (i + 1)) (xs (i + 2)))) (Fu := u) (N := ANL g ou ((σ 3 0).toInt64)) (As := [.ref (ad 0 0), .int (xs (i + 1)), .int (xs (i + 2)), .ref ou]) (rest := []) F hJ (qL_addLot l hst g s.heap.size ad σ u τ hI hJ.1.2 ou hJ.lo1 hJ.hO (xs (i + 1)) (xs (i + 2))) (fun U hU hE => ⟨by rw [hU]; exact hJ.1.1, by rw [hU]; exact hJ.2.2.1.1, hE⟩) (fun U a g9 mk q => ⟨q.1, q.2.1, q.2.2.calling g9 mk a⟩) (fun H1 L1 h1 h2 h3 => pw_add (fun h => n_addLot h) hJ h1 h2 h3) gL_law_L_addLot rfl rfl rfl (by decide +kernel) ⟨Nat.le_of_ble_eq_true rfl, Nat.le_of_ble_eq_true rfl⟩ rfl hl.1 rfl (Nat.le_of_ble_eq_true rfl) dL_law_638 ⟨by omega, by omega⟩ (fun H1 locs1 hP => ?_)
  obtain ⟨ad1, τ1, ha1, hJ1, hN1⟩ := hP
  refine lv_istore hx hb dL_law_641 hl (by decide) rfl (fun ls hl => ?_)
  refine lv_aload_n hx hb dL_law_643 rfl (lv_at hl 4 rfl) ?_
  refine lw_arg (k := 1) F hJ1.2.2.2.2 hL hi (by decide) rfl (lv_at hl 6 rfl) (lv_at hl 1 rfl) dL_law_644 dL_law_645 dL_law_647 dL_law_648 dL_law_649 ?_
  refine lw_arg (k := 2) F hJ1.2.2.2.2 hL hi (by decide) rfl (lv_at hl 6 rfl) (lv_at hl 1 rfl) dL_law_650 dL_law_651 dL_law_653 dL_law_654 dL_law_655 ?_
  refine lw_mod (H0 := s.heap) (n := 2) (As := [.int (xs (i + 1)), .int (xs (i + 2))]) (rest := []) (v := [.int (if t_addLot σ (xs (i + 1)) (xs (i + 2)) = 0 then σ 3 0 else 0)]) F hJ1 (k_addLot l g s.heap.size ma hJ1.2.1.2 σ u (xs (i + 1)) (xs (i + 2)) hI) gL_law_X7_addLot rfl rfl rfl (by decide +kernel) ⟨Nat.le_of_ble_eq_true rfl, Nat.le_of_ble_eq_true rfl⟩ rfl hl.1 rfl (Nat.le_of_ble_eq_true rfl) dL_law_656 ⟨by omega, by omega⟩ rfl (fun H2 locs2 hJ2 hk => ?_)
  exact lw_tailI F (i_addLot hI (xs (i + 1)) (xs (i + 2))) ha1 hJ2 (z_addLot σ (xs (i + 1)) (xs (i + 2))) (fun h => (hN1 h).kept (hk _ hJ1.mO)) (fun h => r_addLot hI (xs (i + 1)) (xs (i + 2)) h) hl dL_law_659 dL_law_661 dL_law_662 dL_law_665 dL_law_667 dL_law_672 dL_law_674 dL_law_677 dL_law_678 dL_law_679 dL_law_680 dL_law_682 dL_law_683 dL_law_684 dL_law_689 (by decide) ⟨by decide, by decide⟩ hf kk
set_option maxHeartbeats 4000000 in
theorem lc_addVat (F : LAWF g p s m c b L xs) (hst : l.stackTraces = false) (hL : L ≤ 3072) (hi : i + 6 ≤ L) (hI : INV σ) (hJ : LJ g s.heap.size ad ma ou od σ u τ σ u s.heap H locs) (hf : cells + 20 ≤ room_1.cells ∧ slots + 200 ≤ room_1.slots) (hl : LOC ls b (ad 0 0) (ma 0) ou od i) (kk : KNT p l e s m b below meth c cells slots Q g (ad 0 0) ma ou od i) : W p l e room_1 s m #[Value.ref b] below meth c H locs cells slots Q (F0 m 692 ls []) := by
  have hx := F.1
  have hb := F.2.1
  refine lv_aload_n hx hb dL_law_692 rfl (lv_at hl 4 rfl) ?_
  refine lw_arg (k := 1) F hJ.2.2.2.2 hL hi (by decide) rfl (lv_at hl 5 rfl) (lv_at hl 0 rfl) dL_law_693 dL_law_694 dL_law_696 dL_law_697 dL_law_698 ?_
  refine lv_aload_n hx hb dL_law_699 rfl (lv_at hl 2 rfl) ?_
  refine lw_wrap (oc := ou) (n := 3) (t := (t_addVat σ (xs (i + 1)))) (Fσ := (F_addVat σ (xs (i + 1)))) (Fu := u) (N := ANL g ou ((σ 4 0).toInt64)) (As := [.ref (ad 0 0), .int (xs (i + 1)), .ref ou]) (rest := []) F hJ (qL_addVat l hst g s.heap.size ad σ u τ hI hJ.1.2 ou hJ.lo1 hJ.hO (xs (i + 1))) (fun U hU hE => ⟨by rw [hU]; exact hJ.1.1, by rw [hU]; exact hJ.2.2.1.1, hE⟩) (fun U a g9 mk q => ⟨q.1, q.2.1, q.2.2.calling g9 mk a⟩) (fun H1 L1 h1 h2 h3 => pw_add (fun h => n_addVat h) hJ h1 h2 h3) gL_law_L_addVat rfl rfl rfl (by decide +kernel) ⟨Nat.le_of_ble_eq_true rfl, Nat.le_of_ble_eq_true rfl⟩ rfl hl.1 rfl (Nat.le_of_ble_eq_true rfl) dL_law_700 ⟨by omega, by omega⟩ (fun H1 locs1 hP => ?_)
  obtain ⟨ad1, τ1, ha1, hJ1, hN1⟩ := hP
  refine lv_istore hx hb dL_law_703 hl (by decide) rfl (fun ls hl => ?_)
  refine lv_aload_n hx hb dL_law_705 rfl (lv_at hl 4 rfl) ?_
  refine lw_arg (k := 1) F hJ1.2.2.2.2 hL hi (by decide) rfl (lv_at hl 6 rfl) (lv_at hl 1 rfl) dL_law_706 dL_law_707 dL_law_709 dL_law_710 dL_law_711 ?_
  refine lw_mod (H0 := s.heap) (n := 1) (As := [.int (xs (i + 1))]) (rest := []) (v := [.int (if t_addVat σ (xs (i + 1)) = 0 then σ 4 0 else 0)]) F hJ1 (k_addVat l g s.heap.size ma hJ1.2.1.2 σ u (xs (i + 1)) hI) gL_law_X7_addVat rfl rfl rfl (by decide +kernel) ⟨Nat.le_of_ble_eq_true rfl, Nat.le_of_ble_eq_true rfl⟩ rfl hl.1 rfl (Nat.le_of_ble_eq_true rfl) dL_law_712 ⟨by omega, by omega⟩ rfl (fun H2 locs2 hJ2 hk => ?_)
  exact lw_tailI F (i_addVat hI (xs (i + 1))) ha1 hJ2 (z_addVat σ (xs (i + 1))) (fun h => (hN1 h).kept (hk _ hJ1.mO)) (fun h => r_addVat hI (xs (i + 1)) h) hl dL_law_715 dL_law_717 dL_law_718 dL_law_721 dL_law_723 dL_law_728 dL_law_730 dL_law_733 dL_law_734 dL_law_735 dL_law_736 dL_law_738 dL_law_739 dL_law_740 dL_law_745 (by decide) ⟨by decide, by decide⟩ hf kk
set_option maxHeartbeats 4000000 in
theorem lc_needs (F : LAWF g p s m c b L xs) (hst : l.stackTraces = false) (hL : L ≤ 3072) (hi : i + 6 ≤ L) (hI : INV σ) (hJ : LJ g s.heap.size ad ma ou od σ u τ σ u s.heap H locs) (hf : cells + 20 ≤ room_1.cells ∧ slots + 200 ≤ room_1.slots) (hl : LOC ls b (ad 0 0) (ma 0) ou od i) (kk : KNT p l e s m b below meth c cells slots Q g (ad 0 0) ma ou od i) : W p l e room_1 s m #[Value.ref b] below meth c H locs cells slots Q (F0 m 748 ls []) := by
  have hx := F.1
  have hb := F.2.1
  refine lv_aload_n hx hb dL_law_748 rfl (lv_at hl 4 rfl) ?_
  refine lw_arg (k := 1) F hJ.2.2.2.2 hL hi (by decide) rfl (lv_at hl 5 rfl) (lv_at hl 0 rfl) dL_law_749 dL_law_750 dL_law_752 dL_law_753 dL_law_754 ?_
  refine lw_arg (k := 2) F hJ.2.2.2.2 hL hi (by decide) rfl (lv_at hl 5 rfl) (lv_at hl 0 rfl) dL_law_755 dL_law_756 dL_law_758 dL_law_759 dL_law_760 ?_
  refine lv_aload_n hx hb dL_law_761 rfl (lv_at hl 2 rfl) ?_
  refine lw_wrap (oc := ou) (n := 4) (t := (t_needs σ (xs (i + 1)) (xs (i + 2)))) (Fσ := (up σ 0 0 (t_needs σ (xs (i + 1)) (xs (i + 2))))) (Fu := u) (N := ANL g ou ((f_needed σ (xs (i + 1)) (xs (i + 2))).toInt64)) (As := [.ref (ad 0 0), .int (xs (i + 1)), .int (xs (i + 2)), .ref ou]) (rest := []) F hJ (qL_needs l hst g s.heap.size ad σ u τ hI hJ.1.2 ou hJ.lo1 hJ.hO (xs (i + 1)) (xs (i + 2))) (fun U hU hE => ⟨by rw [hU]; exact hJ.1.1, by rw [hU]; exact hJ.2.2.1.1, hE⟩) (fun U a g9 mk q => ⟨q.1, q.2.1, q.2.2.calling g9 mk a⟩) (fun H1 L1 h1 h2 h3 => pw_ro (SMR.u0 _ _) hJ h1 h2 h3) gL_law_L_needs rfl rfl rfl (by decide +kernel) ⟨Nat.le_of_ble_eq_true rfl, Nat.le_of_ble_eq_true rfl⟩ rfl hl.1 rfl (Nat.le_of_ble_eq_true rfl) dL_law_762 ⟨by omega, by omega⟩ (fun H1 locs1 hP => ?_)
  obtain ⟨ad1, τ1, ha1, hJ1, hN1⟩ := hP
  refine lv_istore hx hb dL_law_765 hl (by decide) rfl (fun ls hl => ?_)
  refine lv_aload_n hx hb dL_law_767 rfl (lv_at hl 4 rfl) ?_
  refine lw_arg (k := 1) F hJ1.2.2.2.2 hL hi (by decide) rfl (lv_at hl 6 rfl) (lv_at hl 1 rfl) dL_law_768 dL_law_769 dL_law_771 dL_law_772 dL_law_773 ?_
  refine lw_arg (k := 2) F hJ1.2.2.2.2 hL hi (by decide) rfl (lv_at hl 6 rfl) (lv_at hl 1 rfl) dL_law_774 dL_law_775 dL_law_777 dL_law_778 dL_law_779 ?_
  refine lw_mod (H0 := s.heap) (n := 2) (As := [.int (xs (i + 1)), .int (xs (i + 2))]) (rest := []) (v := [.int (if okL σ (xs (i + 1)) ∧ okD (xs (i + 2)) then f_needed σ (xs (i + 1)) (xs (i + 2)) else 0)]) F hJ1 (k_needs l g s.heap.size ma hJ1.2.1.2 σ u (xs (i + 1)) (xs (i + 2)) hI) gL_law_X7_needs rfl rfl rfl (by decide +kernel) ⟨Nat.le_of_ble_eq_true rfl, Nat.le_of_ble_eq_true rfl⟩ rfl hl.1 rfl (Nat.le_of_ble_eq_true rfl) dL_law_780 ⟨by omega, by omega⟩ rfl (fun H2 locs2 hJ2 hk => ?_)
  exact lw_tailI F (i_needs hI (xs (i + 1)) (xs (i + 2))) ha1 hJ2 (z_needs σ (xs (i + 1)) (xs (i + 2))) (fun h => (hN1 h).kept (hk _ hJ1.mO)) (fun h => r_needs hI (xs (i + 1)) (xs (i + 2)) h) hl dL_law_783 dL_law_785 dL_law_786 dL_law_789 dL_law_791 dL_law_796 dL_law_798 dL_law_801 dL_law_802 dL_law_803 dL_law_804 dL_law_806 dL_law_807 dL_law_808 dL_law_813 (by decide) ⟨by decide, by decide⟩ hf kk
set_option maxHeartbeats 4000000 in
theorem lc_hoursFor (F : LAWF g p s m c b L xs) (hst : l.stackTraces = false) (hL : L ≤ 3072) (hi : i + 6 ≤ L) (hI : INV σ) (hJ : LJ g s.heap.size ad ma ou od σ u τ σ u s.heap H locs) (hf : cells + 20 ≤ room_1.cells ∧ slots + 200 ≤ room_1.slots) (hl : LOC ls b (ad 0 0) (ma 0) ou od i) (kk : KNT p l e s m b below meth c cells slots Q g (ad 0 0) ma ou od i) : W p l e room_1 s m #[Value.ref b] below meth c H locs cells slots Q (F0 m 816 ls []) := by
  have hx := F.1
  have hb := F.2.1
  refine lv_aload_n hx hb dL_law_816 rfl (lv_at hl 4 rfl) ?_
  refine lw_arg (k := 1) F hJ.2.2.2.2 hL hi (by decide) rfl (lv_at hl 5 rfl) (lv_at hl 0 rfl) dL_law_817 dL_law_818 dL_law_820 dL_law_821 dL_law_822 ?_
  refine lv_aload_n hx hb dL_law_823 rfl (lv_at hl 2 rfl) ?_
  refine lw_wrap (oc := ou) (n := 3) (t := (tL σ (xs (i + 1)))) (Fσ := (up σ 0 0 (tL σ (xs (i + 1))))) (Fu := u) (N := ANL g ou ((f_hours σ (xs (i + 1))).toInt64)) (As := [.ref (ad 0 0), .int (xs (i + 1)), .ref ou]) (rest := []) F hJ (qL_hoursFor l hst g s.heap.size ad σ u τ hI hJ.1.2 ou hJ.lo1 hJ.hO (xs (i + 1))) (fun U hU hE => ⟨by rw [hU]; exact hJ.1.1, by rw [hU]; exact hJ.2.2.1.1, hE⟩) (fun U a g9 mk q => ⟨q.1, q.2.1, q.2.2.calling g9 mk a⟩) (fun H1 L1 h1 h2 h3 => pw_ro (SMR.u0 _ _) hJ h1 h2 h3) gL_law_L_hoursFor rfl rfl rfl (by decide +kernel) ⟨Nat.le_of_ble_eq_true rfl, Nat.le_of_ble_eq_true rfl⟩ rfl hl.1 rfl (Nat.le_of_ble_eq_true rfl) dL_law_824 ⟨by omega, by omega⟩ (fun H1 locs1 hP => ?_)
  obtain ⟨ad1, τ1, ha1, hJ1, hN1⟩ := hP
  refine lv_istore hx hb dL_law_827 hl (by decide) rfl (fun ls hl => ?_)
  refine lv_aload_n hx hb dL_law_829 rfl (lv_at hl 4 rfl) ?_
  refine lw_arg (k := 1) F hJ1.2.2.2.2 hL hi (by decide) rfl (lv_at hl 6 rfl) (lv_at hl 1 rfl) dL_law_830 dL_law_831 dL_law_833 dL_law_834 dL_law_835 ?_
  refine lw_mod (H0 := s.heap) (n := 1) (As := [.int (xs (i + 1))]) (rest := []) (v := [.int (if okL σ (xs (i + 1)) then f_hours σ (xs (i + 1)) else 0)]) F hJ1 (k_hoursFor l g s.heap.size ma hJ1.2.1.2 σ u (xs (i + 1)) hI) gL_law_X7_hoursFor rfl rfl rfl (by decide +kernel) ⟨Nat.le_of_ble_eq_true rfl, Nat.le_of_ble_eq_true rfl⟩ rfl hl.1 rfl (Nat.le_of_ble_eq_true rfl) dL_law_836 ⟨by omega, by omega⟩ rfl (fun H2 locs2 hJ2 hk => ?_)
  exact lw_tailI F (i_hoursFor hI (xs (i + 1))) ha1 hJ2 (z_hoursFor σ (xs (i + 1))) (fun h => (hN1 h).kept (hk _ hJ1.mO)) (fun h => r_hoursFor hI (xs (i + 1)) h) hl dL_law_839 dL_law_841 dL_law_842 dL_law_845 dL_law_847 dL_law_852 dL_law_854 dL_law_857 dL_law_858 dL_law_859 dL_law_860 dL_law_862 dL_law_863 dL_law_864 dL_law_869 (by decide) ⟨by decide, by decide⟩ hf kk
set_option maxHeartbeats 4000000 in
theorem lc_reason (F : LAWF g p s m c b L xs) (hst : l.stackTraces = false) (hL : L ≤ 3072) (hi : i + 6 ≤ L) (hI : INV σ) (hJ : LJ g s.heap.size ad ma ou od σ u τ σ u s.heap H locs) (hf : cells + 20 ≤ room_1.cells ∧ slots + 200 ≤ room_1.slots) (hl : LOC ls b (ad 0 0) (ma 0) ou od i) (kk : KNT p l e s m b below meth c cells slots Q g (ad 0 0) ma ou od i) : W p l e room_1 s m #[Value.ref b] below meth c H locs cells slots Q (F0 m 872 ls []) := by
  have hx := F.1
  have hb := F.2.1
  refine lv_aload_n hx hb dL_law_872 rfl (lv_at hl 4 rfl) ?_
  refine lw_arg (k := 1) F hJ.2.2.2.2 hL hi (by decide) rfl (lv_at hl 5 rfl) (lv_at hl 0 rfl) dL_law_873 dL_law_874 dL_law_876 dL_law_877 dL_law_878 ?_
  refine lw_arg (k := 2) F hJ.2.2.2.2 hL hi (by decide) rfl (lv_at hl 5 rfl) (lv_at hl 0 rfl) dL_law_879 dL_law_880 dL_law_882 dL_law_883 dL_law_884 ?_
  refine lv_aload_n hx hb dL_law_885 rfl (lv_at hl 2 rfl) ?_
  refine lw_wrap (oc := ou) (n := 4) (t := (tLV σ (xs (i + 1)) (xs (i + 2)))) (Fσ := (up σ 0 0 (tLV σ (xs (i + 1)) (xs (i + 2))))) (Fu := u) (N := ANL g ou ((f_why σ (xs (i + 1)) (xs (i + 2))).toInt64)) (As := [.ref (ad 0 0), .int (xs (i + 1)), .int (xs (i + 2)), .ref ou]) (rest := []) F hJ (qL_reason l hst g s.heap.size ad σ u τ hI hJ.1.2 ou hJ.lo1 hJ.hO (xs (i + 1)) (xs (i + 2))) (fun U hU hE => ⟨by rw [hU]; exact hJ.1.1, by rw [hU]; exact hJ.2.2.1.1, hE⟩) (fun U a g9 mk q => ⟨q.1, q.2.1, q.2.2.calling g9 mk a⟩) (fun H1 L1 h1 h2 h3 => pw_ro (SMR.u0 _ _) hJ h1 h2 h3) gL_law_L_reason rfl rfl rfl (by decide +kernel) ⟨Nat.le_of_ble_eq_true rfl, Nat.le_of_ble_eq_true rfl⟩ rfl hl.1 rfl (Nat.le_of_ble_eq_true rfl) dL_law_886 ⟨by omega, by omega⟩ (fun H1 locs1 hP => ?_)
  obtain ⟨ad1, τ1, ha1, hJ1, hN1⟩ := hP
  refine lv_istore hx hb dL_law_889 hl (by decide) rfl (fun ls hl => ?_)
  refine lv_aload_n hx hb dL_law_891 rfl (lv_at hl 4 rfl) ?_
  refine lw_arg (k := 1) F hJ1.2.2.2.2 hL hi (by decide) rfl (lv_at hl 6 rfl) (lv_at hl 1 rfl) dL_law_892 dL_law_893 dL_law_895 dL_law_896 dL_law_897 ?_
  refine lw_arg (k := 2) F hJ1.2.2.2.2 hL hi (by decide) rfl (lv_at hl 6 rfl) (lv_at hl 1 rfl) dL_law_898 dL_law_899 dL_law_901 dL_law_902 dL_law_903 ?_
  refine lw_mod (H0 := s.heap) (n := 2) (As := [.int (xs (i + 1)), .int (xs (i + 2))]) (rest := []) (v := [.int (if okL σ (xs (i + 1)) ∧ okV σ (xs (i + 2)) then f_why σ (xs (i + 1)) (xs (i + 2)) else 45)]) F hJ1 (k_reason l g s.heap.size ma hJ1.2.1.2 σ u (xs (i + 1)) (xs (i + 2)) hI) gL_law_X7_reason rfl rfl rfl (by decide +kernel) ⟨Nat.le_of_ble_eq_true rfl, Nat.le_of_ble_eq_true rfl⟩ rfl hl.1 rfl (Nat.le_of_ble_eq_true rfl) dL_law_904 ⟨by omega, by omega⟩ rfl (fun H2 locs2 hJ2 hk => ?_)
  exact lw_tailI F (i_reason hI (xs (i + 1)) (xs (i + 2))) ha1 hJ2 (z_reason σ (xs (i + 1)) (xs (i + 2))) (fun h => (hN1 h).kept (hk _ hJ1.mO)) (fun h => r_reason hI (xs (i + 1)) (xs (i + 2)) h) hl dL_law_907 dL_law_909 dL_law_910 dL_law_913 dL_law_915 dL_law_920 dL_law_922 dL_law_925 dL_law_926 dL_law_927 dL_law_928 dL_law_930 dL_law_931 dL_law_932 dL_law_937 (by decide) ⟨by decide, by decide⟩ hf kk
set_option maxHeartbeats 4000000 in
theorem lc_dye (F : LAWF g p s m c b L xs) (hst : l.stackTraces = false) (hL : L ≤ 3072) (hi : i + 6 ≤ L) (hI : INV σ) (hJ : LJ g s.heap.size ad ma ou od σ u τ σ u s.heap H locs) (hf : cells + 20 ≤ room_1.cells ∧ slots + 200 ≤ room_1.slots) (hl : LOC ls b (ad 0 0) (ma 0) ou od i) (kk : KNT p l e s m b below meth c cells slots Q g (ad 0 0) ma ou od i) : W p l e room_1 s m #[Value.ref b] below meth c H locs cells slots Q (F0 m 940 ls []) := by
  have hx := F.1
  have hb := F.2.1
  refine lv_aload_n hx hb dL_law_940 rfl (lv_at hl 4 rfl) ?_
  refine lw_arg (k := 1) F hJ.2.2.2.2 hL hi (by decide) rfl (lv_at hl 5 rfl) (lv_at hl 0 rfl) dL_law_941 dL_law_942 dL_law_944 dL_law_945 dL_law_946 ?_
  refine lw_arg (k := 2) F hJ.2.2.2.2 hL hi (by decide) rfl (lv_at hl 5 rfl) (lv_at hl 0 rfl) dL_law_947 dL_law_948 dL_law_950 dL_law_951 dL_law_952 ?_
  refine lw_arg (k := 3) F hJ.2.2.2.2 hL hi (by decide) rfl (lv_at hl 5 rfl) (lv_at hl 0 rfl) dL_law_953 dL_law_954 dL_law_956 dL_law_957 dL_law_958 ?_
  refine lw_arg (k := 4) F hJ.2.2.2.2 hL hi (by decide) rfl (lv_at hl 5 rfl) (lv_at hl 0 rfl) dL_law_959 dL_law_960 dL_law_962 dL_law_963 dL_law_964 ?_
  refine lw_arg (k := 5) F hJ.2.2.2.2 hL hi (by decide) rfl (lv_at hl 5 rfl) (lv_at hl 0 rfl) dL_law_965 dL_law_966 dL_law_968 dL_law_969 dL_law_970 ?_
  refine lv_aload_n hx hb dL_law_971 rfl (lv_at hl 2 rfl) ?_
  refine lw_wrap (oc := ou) (n := 7) (t := (t_dye σ (xs (i + 1)) (xs (i + 2)) (xs (i + 3)) (xs (i + 4)) (xs (i + 5)))) (Fσ := (F_dye σ (xs (i + 1)) (xs (i + 2)) (xs (i + 3)) (xs (i + 4)) (xs (i + 5)))) (Fu := (u_dye σ u (xs (i + 1)) (xs (i + 2)) (xs (i + 3)) (xs (i + 4)) (xs (i + 5)))) (N := ANL g ou ((σ 25 (ti (xs (i + 2))) + f_hours σ (xs (i + 1))).toInt64)) (As := [.ref (ad 0 0), .int (xs (i + 1)), .int (xs (i + 2)), .int (xs (i + 3)), .int (xs (i + 4)), .int (xs (i + 5)), .ref ou]) (rest := []) F hJ (qL_dye l hst g s.heap.size ad σ u τ hI hJ.1.2 ou hJ.lo1 hJ.hO (xs (i + 1)) (xs (i + 2)) (xs (i + 3)) (xs (i + 4)) (xs (i + 5))) (fun U hU hE => ⟨by rw [hU]; exact hJ.1.1, by rw [hU]; exact hJ.2.2.1.1, hE⟩) (fun U a g9 mk q => ⟨q.1, q.2.1, q.2.2.calling g9 mk a⟩) (fun H1 L1 h1 h2 h3 => pw_mut (fun h => ⟨n_dye h, nu_dye h⟩) (x_dye σ (xs (i + 1)) (xs (i + 2)) (xs (i + 3)) (xs (i + 4)) (xs (i + 5))) hJ h1 h2 h3) gL_law_L_dye rfl rfl rfl (by decide +kernel) ⟨Nat.le_of_ble_eq_true rfl, Nat.le_of_ble_eq_true rfl⟩ rfl hl.1 rfl (Nat.le_of_ble_eq_true rfl) dL_law_972 ⟨by omega, by omega⟩ (fun H1 locs1 hP => ?_)
  obtain ⟨ad1, τ1, ha1, hJ1, hN1⟩ := hP
  refine lv_istore hx hb dL_law_975 hl (by decide) rfl (fun ls hl => ?_)
  refine lv_aload_n hx hb dL_law_977 rfl (lv_at hl 4 rfl) ?_
  refine lw_arg (k := 1) F hJ1.2.2.2.2 hL hi (by decide) rfl (lv_at hl 6 rfl) (lv_at hl 1 rfl) dL_law_978 dL_law_979 dL_law_981 dL_law_982 dL_law_983 ?_
  refine lw_arg (k := 2) F hJ1.2.2.2.2 hL hi (by decide) rfl (lv_at hl 6 rfl) (lv_at hl 1 rfl) dL_law_984 dL_law_985 dL_law_987 dL_law_988 dL_law_989 ?_
  refine lw_arg (k := 3) F hJ1.2.2.2.2 hL hi (by decide) rfl (lv_at hl 6 rfl) (lv_at hl 1 rfl) dL_law_990 dL_law_991 dL_law_993 dL_law_994 dL_law_995 ?_
  refine lw_arg (k := 4) F hJ1.2.2.2.2 hL hi (by decide) rfl (lv_at hl 6 rfl) (lv_at hl 1 rfl) dL_law_996 dL_law_997 dL_law_999 dL_law_1000 dL_law_1001 ?_
  refine lw_arg (k := 5) F hJ1.2.2.2.2 hL hi (by decide) rfl (lv_at hl 6 rfl) (lv_at hl 1 rfl) dL_law_1002 dL_law_1003 dL_law_1005 dL_law_1006 dL_law_1007 ?_
  refine lw_mod (H0 := s.heap) (n := 5) (As := [.int (xs (i + 1)), .int (xs (i + 2)), .int (xs (i + 3)), .int (xs (i + 4)), .int (xs (i + 5))]) (rest := []) (v := [.int (if t_dye σ (xs (i + 1)) (xs (i + 2)) (xs (i + 3)) (xs (i + 4)) (xs (i + 5)) = 0 then σ 25 (ti (xs (i + 2))) + f_hours σ (xs (i + 1)) else 0)]) F hJ1 (k_dye l g s.heap.size ma hJ1.2.1.2 σ u (xs (i + 1)) (xs (i + 2)) (xs (i + 3)) (xs (i + 4)) (xs (i + 5)) hI) gL_law_X7_dye rfl rfl rfl (by decide +kernel) ⟨Nat.le_of_ble_eq_true rfl, Nat.le_of_ble_eq_true rfl⟩ rfl hl.1 rfl (Nat.le_of_ble_eq_true rfl) dL_law_1008 ⟨by omega, by omega⟩ rfl (fun H2 locs2 hJ2 hk => ?_)
  exact lw_tailI F (i_dye hI (xs (i + 1)) (xs (i + 2)) (xs (i + 3)) (xs (i + 4)) (xs (i + 5))) ha1 hJ2 (z_dye σ (xs (i + 1)) (xs (i + 2)) (xs (i + 3)) (xs (i + 4)) (xs (i + 5))) (fun h => (hN1 h).kept (hk _ hJ1.mO)) (fun h => r_dye hI (xs (i + 1)) (xs (i + 2)) (xs (i + 3)) (xs (i + 4)) (xs (i + 5)) h) hl dL_law_1011 dL_law_1013 dL_law_1014 dL_law_1017 dL_law_1019 dL_law_1024 dL_law_1026 dL_law_1029 dL_law_1030 dL_law_1031 dL_law_1032 dL_law_1034 dL_law_1035 dL_law_1036 dL_law_1041 (by decide) ⟨by decide, by decide⟩ hf kk
end LAWC
