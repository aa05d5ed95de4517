/-! ===== the law, case by case ===== -/
theorem mean_ne {σ : Sg} (h : t_mean σ = 0) : ¬ c_nw σ (nL σ) = 0 := fun q => by
  unfold t_mean at h
  rw [if_pos q] at h
  exact absurd h (by decide)
section LAWC
variable {p : Program} {l : Launch} {e : Env} {s : State} {m : MethodId} {below : List Frame} {meth : Method} {c : Code} {H : Heap} {locs : List Loc} {cells slots : Nat} {Q : State → Prop}
variable {ls : Array Slot} {g : EG} {b L : Nat} {xs : Nat → Int32} {ad : Nat → Nat → Nat} {ma : Nat → Nat} {ou od : Nat} {σ τ : Sg} {u : Nat → Int64} {i : Nat}
set_option maxHeartbeats 4000000 in
theorem lc_lightIn (F : LAWF g p s m c b L xs) (hst : l.stackTraces = false) (hL : L ≤ 3072) (hi : i + 6 ≤ L) (hI : INV σ) (hJ : LJ g s.heap.size ad ma ou od σ u τ σ u s.heap H locs) (hf : cells + 20 ≤ room_1.cells ∧ slots + 200 ≤ room_1.slots) (hl : LOC ls b (ad 0 0) (ma 0) ou od i) (kk : KNT p l e s m b below meth c cells slots Q g (ad 0 0) ma ou od i) : W p l e room_1 s m #[Value.ref b] below meth c H locs cells slots Q (F0 m 2245 ls []) := by
  have hx := F.1
  have hb := F.2.1
  refine lv_aload_n hx hb dL_law_2245 rfl (lv_at hl 4 rfl) ?_
  refine lw_arg (k := 1) F hJ.2.2.2.2 hL hi (by decide) rfl (lv_at hl 5 rfl) (lv_at hl 0 rfl) dL_law_2246 dL_law_2247 dL_law_2249 dL_law_2250 dL_law_2251 ?_
  refine lv_aload_n hx hb dL_law_2252 rfl (lv_at hl 2 rfl) ?_
  refine lw_wrap (oc := ou) (n := 3) (t := (t_cell σ 23 (xs (i + 1)))) (Fσ := (up σ 0 0 (t_cell σ 23 (xs (i + 1))))) (Fu := u) (N := ANL g ou ((σ 23 (ti (xs (i + 1)))).toInt64)) (As := [.ref (ad 0 0), .int (xs (i + 1)), .ref ou]) (rest := []) F hJ (qL_lightIn l hst g s.heap.size ad σ u τ hI hJ.1.2 ou hJ.lo1 hJ.hO (xs (i + 1))) (fun U hU hE => ⟨by rw [hU]; exact hJ.1.1, by rw [hU]; exact hJ.2.2.1.1, hE⟩) (fun U a g9 mk q => ⟨q.1, q.2.1, q.2.2.calling g9 mk a⟩) (fun H1 L1 h1 h2 h3 => pw_ro (SMR.u0 _ _) hJ h1 h2 h3) gL_law_L_lightIn rfl rfl rfl (by decide +kernel) ⟨Nat.le_of_ble_eq_true rfl, Nat.le_of_ble_eq_true rfl⟩ rfl hl.1 rfl (Nat.le_of_ble_eq_true rfl) dL_law_2253 ⟨by omega, by omega⟩ (fun H1 locs1 hP => ?_)
  obtain ⟨ad1, τ1, ha1, hJ1, hN1⟩ := hP
  refine lv_istore hx hb dL_law_2256 hl (by decide) rfl (fun ls hl => ?_)
  refine lv_aload_n hx hb dL_law_2258 rfl (lv_at hl 4 rfl) ?_
  refine lw_arg (k := 1) F hJ1.2.2.2.2 hL hi (by decide) rfl (lv_at hl 6 rfl) (lv_at hl 1 rfl) dL_law_2259 dL_law_2260 dL_law_2262 dL_law_2263 dL_law_2264 ?_
  refine lw_mod (H0 := s.heap) (n := 1) (As := [.int (xs (i + 1))]) (rest := []) (v := [.int (if t_cell σ 23 (xs (i + 1)) = 0 then σ 23 (ti (xs (i + 1))) else 0)]) F hJ1 (k_lightIn l g s.heap.size ma hJ1.2.1.2 σ u (xs (i + 1)) hI) gL_law_X7_lightIn rfl rfl rfl (by decide +kernel) ⟨Nat.le_of_ble_eq_true rfl, Nat.le_of_ble_eq_true rfl⟩ rfl hl.1 rfl (Nat.le_of_ble_eq_true rfl) dL_law_2265 ⟨by omega, by omega⟩ rfl (fun H2 locs2 hJ2 hk => ?_)
  exact lw_tailI F (i_lightIn hI (xs (i + 1))) ha1 hJ2 (z_lightIn σ (xs (i + 1))) (fun h => (hN1 h).kept (hk _ hJ1.mO)) (fun h => r_lightIn hI (xs (i + 1)) h) hl dL_law_2268 dL_law_2270 dL_law_2271 dL_law_2274 dL_law_2276 dL_law_2281 dL_law_2283 dL_law_2286 dL_law_2287 dL_law_2288 dL_law_2289 dL_law_2291 dL_law_2292 dL_law_2293 dL_law_2298 (by decide) ⟨by decide, by decide⟩ hf kk
set_option maxHeartbeats 4000000 in
theorem lc_customerOf (F : LAWF g p s m c b L xs) (hst : l.stackTraces = false) (hL : L ≤ 3072) (hi : i + 6 ≤ L) (hI : INV σ) (hJ : LJ g s.heap.size ad ma ou od σ u τ σ u s.heap H locs) (hf : cells + 20 ≤ room_1.cells ∧ slots + 200 ≤ room_1.slots) (hl : LOC ls b (ad 0 0) (ma 0) ou od i) (kk : KNT p l e s m b below meth c cells slots Q g (ad 0 0) ma ou od i) : W p l e room_1 s m #[Value.ref b] below meth c H locs cells slots Q (F0 m 2301 ls []) := by
  have hx := F.1
  have hb := F.2.1
  refine lv_aload_n hx hb dL_law_2301 rfl (lv_at hl 4 rfl) ?_
  refine lw_arg (k := 1) F hJ.2.2.2.2 hL hi (by decide) rfl (lv_at hl 5 rfl) (lv_at hl 0 rfl) dL_law_2302 dL_law_2303 dL_law_2305 dL_law_2306 dL_law_2307 ?_
  refine lv_aload_n hx hb dL_law_2308 rfl (lv_at hl 2 rfl) ?_
  refine lw_wrap (oc := ou) (n := 3) (t := (t_cell σ 24 (xs (i + 1)))) (Fσ := (up σ 0 0 (t_cell σ 24 (xs (i + 1))))) (Fu := u) (N := ANL g ou ((σ 24 (ti (xs (i + 1)))).toInt64)) (As := [.ref (ad 0 0), .int (xs (i + 1)), .ref ou]) (rest := []) F hJ (qL_customerOf l hst g s.heap.size ad σ u τ hI hJ.1.2 ou hJ.lo1 hJ.hO (xs (i + 1))) (fun U hU hE => ⟨by rw [hU]; exact hJ.1.1, by rw [hU]; exact hJ.2.2.1.1, hE⟩) (fun U a g9 mk q => ⟨q.1, q.2.1, q.2.2.calling g9 mk a⟩) (fun H1 L1 h1 h2 h3 => pw_ro (SMR.u0 _ _) hJ h1 h2 h3) gL_law_L_customerOf rfl rfl rfl (by decide +kernel) ⟨Nat.le_of_ble_eq_true rfl, Nat.le_of_ble_eq_true rfl⟩ rfl hl.1 rfl (Nat.le_of_ble_eq_true rfl) dL_law_2309 ⟨by omega, by omega⟩ (fun H1 locs1 hP => ?_)
  obtain ⟨ad1, τ1, ha1, hJ1, hN1⟩ := hP
  refine lv_istore hx hb dL_law_2312 hl (by decide) rfl (fun ls hl => ?_)
  refine lv_aload_n hx hb dL_law_2314 rfl (lv_at hl 4 rfl) ?_
  refine lw_arg (k := 1) F hJ1.2.2.2.2 hL hi (by decide) rfl (lv_at hl 6 rfl) (lv_at hl 1 rfl) dL_law_2315 dL_law_2316 dL_law_2318 dL_law_2319 dL_law_2320 ?_
  refine lw_mod (H0 := s.heap) (n := 1) (As := [.int (xs (i + 1))]) (rest := []) (v := [.int (if t_cell σ 24 (xs (i + 1)) = 0 then σ 24 (ti (xs (i + 1))) else 0)]) F hJ1 (k_customerOf l g s.heap.size ma hJ1.2.1.2 σ u (xs (i + 1)) hI) gL_law_X7_customerOf rfl rfl rfl (by decide +kernel) ⟨Nat.le_of_ble_eq_true rfl, Nat.le_of_ble_eq_true rfl⟩ rfl hl.1 rfl (Nat.le_of_ble_eq_true rfl) dL_law_2321 ⟨by omega, by omega⟩ rfl (fun H2 locs2 hJ2 hk => ?_)
  exact lw_tailI F (i_customerOf hI (xs (i + 1))) ha1 hJ2 (z_customerOf σ (xs (i + 1))) (fun h => (hN1 h).kept (hk _ hJ1.mO)) (fun h => r_customerOf hI (xs (i + 1)) h) hl dL_law_2324 dL_law_2326 dL_law_2327 dL_law_2330 dL_law_2332 dL_law_2337 dL_law_2339 dL_law_2342 dL_law_2343 dL_law_2344 dL_law_2345 dL_law_2347 dL_law_2348 dL_law_2349 dL_law_2354 (by decide) ⟨by decide, by decide⟩ hf kk
set_option maxHeartbeats 4000000 in
theorem lc_lotsOf (F : LAWF g p s m c b L xs) (hst : l.stackTraces = false) (hL : L ≤ 3072) (hi : i + 6 ≤ L) (hI : INV σ) (hJ : LJ g s.heap.size ad ma ou od σ u τ σ u s.heap H locs) (hf : cells + 20 ≤ room_1.cells ∧ slots + 200 ≤ room_1.slots) (hl : LOC ls b (ad 0 0) (ma 0) ou od i) (kk : KNT p l e s m b below meth c cells slots Q g (ad 0 0) ma ou od i) : W p l e room_1 s m #[Value.ref b] below meth c H locs cells slots Q (F0 m 2357 ls []) := by
  have hx := F.1
  have hb := F.2.1
  refine lv_aload_n hx hb dL_law_2357 rfl (lv_at hl 4 rfl) ?_
  refine lw_arg (k := 1) F hJ.2.2.2.2 hL hi (by decide) rfl (lv_at hl 5 rfl) (lv_at hl 0 rfl) dL_law_2358 dL_law_2359 dL_law_2361 dL_law_2362 dL_law_2363 ?_
  refine lv_aload_n hx hb dL_law_2364 rfl (lv_at hl 2 rfl) ?_
  refine lw_wrap (oc := ou) (n := 3) (t := (tO σ (xs (i + 1)))) (Fσ := (up σ 0 0 (tO σ (xs (i + 1))))) (Fu := u) (N := ANL g ou ((c_lots σ (xs (i + 1)) (nL σ)).toInt64)) (As := [.ref (ad 0 0), .int (xs (i + 1)), .ref ou]) (rest := []) F hJ (qL_lotsOf l hst g s.heap.size ad σ u τ hI hJ.1.2 ou hJ.lo1 hJ.hO (xs (i + 1))) (fun U hU hE => ⟨by rw [hU]; exact hJ.1.1, by rw [hU]; exact hJ.2.2.1.1, hE⟩) (fun U a g9 mk q => ⟨q.1, q.2.1, q.2.2.calling g9 mk a⟩) (fun H1 L1 h1 h2 h3 => pw_ro (SMR.u0 _ _) hJ h1 h2 h3) gL_law_L_lotsOf rfl rfl rfl (by decide +kernel) ⟨Nat.le_of_ble_eq_true rfl, Nat.le_of_ble_eq_true rfl⟩ rfl hl.1 rfl (Nat.le_of_ble_eq_true rfl) dL_law_2365 ⟨by omega, by omega⟩ (fun H1 locs1 hP => ?_)
  obtain ⟨ad1, τ1, ha1, hJ1, hN1⟩ := hP
  refine lv_istore hx hb dL_law_2368 hl (by decide) rfl (fun ls hl => ?_)
  refine lv_aload_n hx hb dL_law_2370 rfl (lv_at hl 4 rfl) ?_
  refine lw_arg (k := 1) F hJ1.2.2.2.2 hL hi (by decide) rfl (lv_at hl 6 rfl) (lv_at hl 1 rfl) dL_law_2371 dL_law_2372 dL_law_2374 dL_law_2375 dL_law_2376 ?_
  refine lw_mod (H0 := s.heap) (n := 1) (As := [.int (xs (i + 1))]) (rest := []) (v := [.int (if okO σ (xs (i + 1)) then c_lots σ (xs (i + 1)) (nL σ) else 0)]) F hJ1 (k_lotsOf l g s.heap.size ma hJ1.2.1.2 σ u (xs (i + 1)) hI) gL_law_X7_lotsOf rfl rfl rfl (by decide +kernel) ⟨Nat.le_of_ble_eq_true rfl, Nat.le_of_ble_eq_true rfl⟩ rfl hl.1 rfl (Nat.le_of_ble_eq_true rfl) dL_law_2377 ⟨by omega, by omega⟩ rfl (fun H2 locs2 hJ2 hk => ?_)
  exact lw_tailI F (i_lotsOf hI (xs (i + 1))) ha1 hJ2 (z_lotsOf σ (xs (i + 1))) (fun h => (hN1 h).kept (hk _ hJ1.mO)) (fun h => r_lotsOf hI (xs (i + 1)) h) hl dL_law_2380 dL_law_2382 dL_law_2383 dL_law_2386 dL_law_2388 dL_law_2393 dL_law_2395 dL_law_2398 dL_law_2399 dL_law_2400 dL_law_2401 dL_law_2403 dL_law_2404 dL_law_2405 dL_law_2410 (by decide) ⟨by decide, by decide⟩ hf kk
set_option maxHeartbeats 4000000 in
theorem lc_passedOf (F : LAWF g p s m c b L xs) (hst : l.stackTraces = false) (hL : L ≤ 3072) (hi : i + 6 ≤ L) (hI : INV σ) (hJ : LJ g s.heap.size ad ma ou od σ u τ σ u s.heap H locs) (hf : cells + 20 ≤ room_1.cells ∧ slots + 200 ≤ room_1.slots) (hl : LOC ls b (ad 0 0) (ma 0) ou od i) (kk : KNT p l e s m b below meth c cells slots Q g (ad 0 0) ma ou od i) : W p l e room_1 s m #[Value.ref b] below meth c H locs cells slots Q (F0 m 2413 ls []) := by
  have hx := F.1
  have hb := F.2.1
  refine lv_aload_n hx hb dL_law_2413 rfl (lv_at hl 4 rfl) ?_
  refine lw_arg (k := 1) F hJ.2.2.2.2 hL hi (by decide) rfl (lv_at hl 5 rfl) (lv_at hl 0 rfl) dL_law_2414 dL_law_2415 dL_law_2417 dL_law_2418 dL_law_2419 ?_
  refine lv_aload_n hx hb dL_law_2420 rfl (lv_at hl 2 rfl) ?_
  refine lw_wrap (oc := ou) (n := 3) (t := (tO σ (xs (i + 1)))) (Fσ := (up σ 0 0 (tO σ (xs (i + 1))))) (Fu := u) (N := ANL g ou ((c_pass σ (xs (i + 1)) (nL σ)).toInt64)) (As := [.ref (ad 0 0), .int (xs (i + 1)), .ref ou]) (rest := []) F hJ (qL_passedOf l hst g s.heap.size ad σ u τ hI hJ.1.2 ou hJ.lo1 hJ.hO (xs (i + 1))) (fun U hU hE => ⟨by rw [hU]; exact hJ.1.1, by rw [hU]; exact hJ.2.2.1.1, hE⟩) (fun U a g9 mk q => ⟨q.1, q.2.1, q.2.2.calling g9 mk a⟩) (fun H1 L1 h1 h2 h3 => pw_ro (SMR.u0 _ _) hJ h1 h2 h3) gL_law_L_passedOf rfl rfl rfl (by decide +kernel) ⟨Nat.le_of_ble_eq_true rfl, Nat.le_of_ble_eq_true rfl⟩ rfl hl.1 rfl (Nat.le_of_ble_eq_true rfl) dL_law_2421 ⟨by omega, by omega⟩ (fun H1 locs1 hP => ?_)
  obtain ⟨ad1, τ1, ha1, hJ1, hN1⟩ := hP
  refine lv_istore hx hb dL_law_2424 hl (by decide) rfl (fun ls hl => ?_)
  refine lv_aload_n hx hb dL_law_2426 rfl (lv_at hl 4 rfl) ?_
  refine lw_arg (k := 1) F hJ1.2.2.2.2 hL hi (by decide) rfl (lv_at hl 6 rfl) (lv_at hl 1 rfl) dL_law_2427 dL_law_2428 dL_law_2430 dL_law_2431 dL_law_2432 ?_
  refine lw_mod (H0 := s.heap) (n := 1) (As := [.int (xs (i + 1))]) (rest := []) (v := [.int (if okO σ (xs (i + 1)) then c_pass σ (xs (i + 1)) (nL σ) else 0)]) F hJ1 (k_passedOf l g s.heap.size ma hJ1.2.1.2 σ u (xs (i + 1)) hI) gL_law_X7_passedOf rfl rfl rfl (by decide +kernel) ⟨Nat.le_of_ble_eq_true rfl, Nat.le_of_ble_eq_true rfl⟩ rfl hl.1 rfl (Nat.le_of_ble_eq_true rfl) dL_law_2433 ⟨by omega, by omega⟩ rfl (fun H2 locs2 hJ2 hk => ?_)
  exact lw_tailI F (i_passedOf hI (xs (i + 1))) ha1 hJ2 (z_passedOf σ (xs (i + 1))) (fun h => (hN1 h).kept (hk _ hJ1.mO)) (fun h => r_passedOf hI (xs (i + 1)) h) hl dL_law_2436 dL_law_2438 dL_law_2439 dL_law_2442 dL_law_2444 dL_law_2449 dL_law_2451 dL_law_2454 dL_law_2455 dL_law_2456 dL_law_2457 dL_law_2459 dL_law_2460 dL_law_2461 dL_law_2466 (by decide) ⟨by decide, by decide⟩ hf kk
set_option maxHeartbeats 4000000 in
theorem lc_spread (F : LAWF g p s m c b L xs) (hst : l.stackTraces = false) (hL : L ≤ 3072) (hi : i + 6 ≤ L) (hI : INV σ) (hJ : LJ g s.heap.size ad ma ou od σ u τ σ u s.heap H locs) (hf : cells + 20 ≤ room_1.cells ∧ slots + 200 ≤ room_1.slots) (hl : LOC ls b (ad 0 0) (ma 0) ou od i) (kk : KNT p l e s m b below meth c cells slots Q g (ad 0 0) ma ou od i) : W p l e room_1 s m #[Value.ref b] below meth c H locs cells slots Q (F0 m 2469 ls []) := by
  have hx := F.1
  have hb := F.2.1
  refine lv_aload_n hx hb dL_law_2469 rfl (lv_at hl 4 rfl) ?_
  refine lw_arg (k := 1) F hJ.2.2.2.2 hL hi (by decide) rfl (lv_at hl 5 rfl) (lv_at hl 0 rfl) dL_law_2470 dL_law_2471 dL_law_2473 dL_law_2474 dL_law_2475 ?_
  refine lv_aload_n hx hb dL_law_2476 rfl (lv_at hl 2 rfl) ?_
  refine lw_wrap (oc := ou) (n := 3) (t := (tO σ (xs (i + 1)))) (Fσ := (up σ 0 0 (tO σ (xs (i + 1))))) (Fu := u) (N := ANL g ou ((spO σ (xs (i + 1)) (nL σ)).toInt64)) (As := [.ref (ad 0 0), .int (xs (i + 1)), .ref ou]) (rest := []) F hJ (qL_spread l hst g s.heap.size ad σ u τ hI hJ.1.2 ou hJ.lo1 hJ.hO (xs (i + 1))) (fun U hU hE => ⟨by rw [hU]; exact hJ.1.1, by rw [hU]; exact hJ.2.2.1.1, hE⟩) (fun U a g9 mk q => ⟨q.1, q.2.1, q.2.2.calling g9 mk a⟩) (fun H1 L1 h1 h2 h3 => pw_ro (SMR.u0 _ _) hJ h1 h2 h3) gL_law_L_spread rfl rfl rfl (by decide +kernel) ⟨Nat.le_of_ble_eq_true rfl, Nat.le_of_ble_eq_true rfl⟩ rfl hl.1 rfl (Nat.le_of_ble_eq_true rfl) dL_law_2477 ⟨by omega, by omega⟩ (fun H1 locs1 hP => ?_)
  obtain ⟨ad1, τ1, ha1, hJ1, hN1⟩ := hP
  refine lv_istore hx hb dL_law_2480 hl (by decide) rfl (fun ls hl => ?_)
  refine lv_aload_n hx hb dL_law_2482 rfl (lv_at hl 4 rfl) ?_
  refine lw_arg (k := 1) F hJ1.2.2.2.2 hL hi (by decide) rfl (lv_at hl 6 rfl) (lv_at hl 1 rfl) dL_law_2483 dL_law_2484 dL_law_2486 dL_law_2487 dL_law_2488 ?_
  refine lw_mod (H0 := s.heap) (n := 1) (As := [.int (xs (i + 1))]) (rest := []) (v := [.int (if okO σ (xs (i + 1)) then spO σ (xs (i + 1)) (nL σ) else 0)]) F hJ1 (k_spread l g s.heap.size ma hJ1.2.1.2 σ u (xs (i + 1)) hI) gL_law_X7_spread rfl rfl rfl (by decide +kernel) ⟨Nat.le_of_ble_eq_true rfl, Nat.le_of_ble_eq_true rfl⟩ rfl hl.1 rfl (Nat.le_of_ble_eq_true rfl) dL_law_2489 ⟨by omega, by omega⟩ rfl (fun H2 locs2 hJ2 hk => ?_)
  exact lw_tailI F (i_spread hI (xs (i + 1))) ha1 hJ2 (z_spread σ (xs (i + 1))) (fun h => (hN1 h).kept (hk _ hJ1.mO)) (fun h => r_spread hI (xs (i + 1)) h) hl dL_law_2492 dL_law_2494 dL_law_2495 dL_law_2498 dL_law_2500 dL_law_2505 dL_law_2507 dL_law_2510 dL_law_2511 dL_law_2512 dL_law_2513 dL_law_2515 dL_law_2516 dL_law_2517 dL_law_2522 (by decide) ⟨by decide, by decide⟩ hf kk
set_option maxHeartbeats 4000000 in
theorem lc_lateBy (F : LAWF g p s m c b L xs) (hst : l.stackTraces = false) (hL : L ≤ 3072) (hi : i + 6 ≤ L) (hI : INV σ) (hJ : LJ g s.heap.size ad ma ou od σ u τ σ u s.heap H locs) (hf : cells + 20 ≤ room_1.cells ∧ slots + 200 ≤ room_1.slots) (hl : LOC ls b (ad 0 0) (ma 0) ou od i) (kk : KNT p l e s m b below meth c cells slots Q g (ad 0 0) ma ou od i) : W p l e room_1 s m #[Value.ref b] below meth c H locs cells slots Q (F0 m 2525 ls []) := by
  have hx := F.1
  have hb := F.2.1
  refine lv_aload_n hx hb dL_law_2525 rfl (lv_at hl 4 rfl) ?_
  refine lw_arg (k := 1) F hJ.2.2.2.2 hL hi (by decide) rfl (lv_at hl 5 rfl) (lv_at hl 0 rfl) dL_law_2526 dL_law_2527 dL_law_2529 dL_law_2530 dL_law_2531 ?_
  refine lv_aload_n hx hb dL_law_2532 rfl (lv_at hl 2 rfl) ?_
  refine lw_wrap (oc := ou) (n := 3) (t := (tO σ (xs (i + 1)))) (Fσ := (up σ 0 0 (tO σ (xs (i + 1))))) (Fu := u) (N := ANL g ou ((f_late σ (xs (i + 1))).toInt64)) (As := [.ref (ad 0 0), .int (xs (i + 1)), .ref ou]) (rest := []) F hJ (qL_lateBy l hst g s.heap.size ad σ u τ hI hJ.1.2 ou hJ.lo1 hJ.hO (xs (i + 1))) (fun U hU hE => ⟨by rw [hU]; exact hJ.1.1, by rw [hU]; exact hJ.2.2.1.1, hE⟩) (fun U a g9 mk q => ⟨q.1, q.2.1, q.2.2.calling g9 mk a⟩) (fun H1 L1 h1 h2 h3 => pw_ro (SMR.u0 _ _) hJ h1 h2 h3) gL_law_L_lateBy rfl rfl rfl (by decide +kernel) ⟨Nat.le_of_ble_eq_true rfl, Nat.le_of_ble_eq_true rfl⟩ rfl hl.1 rfl (Nat.le_of_ble_eq_true rfl) dL_law_2533 ⟨by omega, by omega⟩ (fun H1 locs1 hP => ?_)
  obtain ⟨ad1, τ1, ha1, hJ1, hN1⟩ := hP
  refine lv_istore hx hb dL_law_2536 hl (by decide) rfl (fun ls hl => ?_)
  refine lv_aload_n hx hb dL_law_2538 rfl (lv_at hl 4 rfl) ?_
  refine lw_arg (k := 1) F hJ1.2.2.2.2 hL hi (by decide) rfl (lv_at hl 6 rfl) (lv_at hl 1 rfl) dL_law_2539 dL_law_2540 dL_law_2542 dL_law_2543 dL_law_2544 ?_
  refine lw_mod (H0 := s.heap) (n := 1) (As := [.int (xs (i + 1))]) (rest := []) (v := [.int (if okO σ (xs (i + 1)) then f_late σ (xs (i + 1)) else 0)]) F hJ1 (k_lateBy l g s.heap.size ma hJ1.2.1.2 σ u (xs (i + 1)) hI) gL_law_X7_lateBy rfl rfl rfl (by decide +kernel) ⟨Nat.le_of_ble_eq_true rfl, Nat.le_of_ble_eq_true rfl⟩ rfl hl.1 rfl (Nat.le_of_ble_eq_true rfl) dL_law_2545 ⟨by omega, by omega⟩ rfl (fun H2 locs2 hJ2 hk => ?_)
  exact lw_tailI F (i_lateBy hI (xs (i + 1))) ha1 hJ2 (z_lateBy σ (xs (i + 1))) (fun h => (hN1 h).kept (hk _ hJ1.mO)) (fun h => r_lateBy hI (xs (i + 1)) h) hl dL_law_2548 dL_law_2550 dL_law_2551 dL_law_2554 dL_law_2556 dL_law_2561 dL_law_2563 dL_law_2566 dL_law_2567 dL_law_2568 dL_law_2569 dL_law_2571 dL_law_2572 dL_law_2573 dL_law_2578 (by decide) ⟨by decide, by decide⟩ hf kk
set_option maxHeartbeats 4000000 in
theorem lc_due (F : LAWF g p s m c b L xs) (hst : l.stackTraces = false) (hL : L ≤ 3072) (hi : i + 6 ≤ L) (hI : INV σ) (hJ : LJ g s.heap.size ad ma ou od σ u τ σ u s.heap H locs) (hf : cells + 20 ≤ room_1.cells ∧ slots + 200 ≤ room_1.slots) (hl : LOC ls b (ad 0 0) (ma 0) ou od i) (kk : KNT p l e s m b below meth c cells slots Q g (ad 0 0) ma ou od i) : W p l e room_1 s m #[Value.ref b] below meth c H locs cells slots Q (F0 m 2581 ls []) := by
  have hx := F.1
  have hb := F.2.1
  refine lv_aload_n hx hb dL_law_2581 rfl (lv_at hl 4 rfl) ?_
  refine lw_arg (k := 1) F hJ.2.2.2.2 hL hi (by decide) rfl (lv_at hl 5 rfl) (lv_at hl 0 rfl) dL_law_2582 dL_law_2583 dL_law_2585 dL_law_2586 dL_law_2587 ?_
  refine lv_aload_n hx hb dL_law_2588 rfl (lv_at hl 2 rfl) ?_
  refine lw_wrap (oc := ou) (n := 3) (t := (tO σ (xs (i + 1)))) (Fσ := (up σ 0 0 (tO σ (xs (i + 1))))) (Fu := u) (N := ANL g ou ((f_worth σ (xs (i + 1))).toInt64)) (As := [.ref (ad 0 0), .int (xs (i + 1)), .ref ou]) (rest := []) F hJ (qL_due l hst g s.heap.size ad σ u τ hI hJ.1.2 ou hJ.lo1 hJ.hO (xs (i + 1))) (fun U hU hE => ⟨by rw [hU]; exact hJ.1.1, by rw [hU]; exact hJ.2.2.1.1, hE⟩) (fun U a g9 mk q => ⟨q.1, q.2.1, q.2.2.calling g9 mk a⟩) (fun H1 L1 h1 h2 h3 => pw_ro (SMR.u0 _ _) hJ h1 h2 h3) gL_law_L_due rfl rfl rfl (by decide +kernel) ⟨Nat.le_of_ble_eq_true rfl, Nat.le_of_ble_eq_true rfl⟩ rfl hl.1 rfl (Nat.le_of_ble_eq_true rfl) dL_law_2589 ⟨by omega, by omega⟩ (fun H1 locs1 hP => ?_)
  obtain ⟨ad1, τ1, ha1, hJ1, hN1⟩ := hP
  refine lv_istore hx hb dL_law_2592 hl (by decide) rfl (fun ls hl => ?_)
  refine lv_aload_n hx hb dL_law_2594 rfl (lv_at hl 4 rfl) ?_
  refine lw_arg (k := 1) F hJ1.2.2.2.2 hL hi (by decide) rfl (lv_at hl 6 rfl) (lv_at hl 1 rfl) dL_law_2595 dL_law_2596 dL_law_2598 dL_law_2599 dL_law_2600 ?_
  refine lw_mod (H0 := s.heap) (n := 1) (As := [.int (xs (i + 1))]) (rest := []) (v := [.int (if okO σ (xs (i + 1)) then f_worth σ (xs (i + 1)) else 0)]) F hJ1 (k_due l g s.heap.size ma hJ1.2.1.2 σ u (xs (i + 1)) hI) gL_law_X7_due rfl rfl rfl (by decide +kernel) ⟨Nat.le_of_ble_eq_true rfl, Nat.le_of_ble_eq_true rfl⟩ rfl hl.1 rfl (Nat.le_of_ble_eq_true rfl) dL_law_2601 ⟨by omega, by omega⟩ rfl (fun H2 locs2 hJ2 hk => ?_)
  exact lw_tailI F (i_due hI (xs (i + 1))) ha1 hJ2 (z_due σ (xs (i + 1))) (fun h => (hN1 h).kept (hk _ hJ1.mO)) (fun h => r_due hI (xs (i + 1)) h) hl dL_law_2604 dL_law_2606 dL_law_2607 dL_law_2610 dL_law_2612 dL_law_2617 dL_law_2619 dL_law_2622 dL_law_2623 dL_law_2624 dL_law_2625 dL_law_2627 dL_law_2628 dL_law_2629 dL_law_2634 (by decide) ⟨by decide, by decide⟩ hf kk
set_option maxHeartbeats 4000000 in
theorem lc_dues (F : LAWF g p s m c b L xs) (hst : l.stackTraces = false) (hL : L ≤ 3072) (hi : i + 6 ≤ L) (hI : INV σ) (hJ : LJ g s.heap.size ad ma ou od σ u τ σ u s.heap H locs) (hf : cells + 20 ≤ room_1.cells ∧ slots + 200 ≤ room_1.slots) (hl : LOC ls b (ad 0 0) (ma 0) ou od i) (kk : KNT p l e s m b below meth c cells slots Q g (ad 0 0) ma ou od i) : W p l e room_1 s m #[Value.ref b] below meth c H locs cells slots Q (F0 m 2637 ls []) := by
  have hx := F.1
  have hb := F.2.1
  refine lv_aload_n hx hb dL_law_2637 rfl (lv_at hl 4 rfl) ?_
  refine lw_arg (k := 1) F hJ.2.2.2.2 hL hi (by decide) rfl (lv_at hl 5 rfl) (lv_at hl 0 rfl) dL_law_2638 dL_law_2639 dL_law_2641 dL_law_2642 dL_law_2643 ?_
  refine lv_aload_n hx hb dL_law_2644 rfl (lv_at hl 2 rfl) ?_
  refine lw_wrap (oc := ou) (n := 3) (t := (t_dues (xs (i + 1)))) (Fσ := (up σ 0 0 (t_dues (xs (i + 1))))) (Fu := u) (N := ANL g ou (f_dues σ (xs (i + 1)) (nO σ))) (As := [.ref (ad 0 0), .int (xs (i + 1)), .ref ou]) (rest := []) F hJ (qL_dues l hst g s.heap.size ad σ u τ hI hJ.1.2 ou hJ.lo1 hJ.hO (xs (i + 1))) (fun U hU hE => ⟨by rw [hU]; exact hJ.1.1, by rw [hU]; exact hJ.2.2.1.1, hE⟩) (fun U a g9 mk q => ⟨q.1, q.2.1, q.2.2.calling g9 mk a⟩) (fun H1 L1 h1 h2 h3 => pw_ro (SMR.u0 _ _) hJ h1 h2 h3) gL_law_L_dues rfl rfl rfl (by decide +kernel) ⟨Nat.le_of_ble_eq_true rfl, Nat.le_of_ble_eq_true rfl⟩ rfl hl.1 rfl (Nat.le_of_ble_eq_true rfl) dL_law_2645 ⟨by omega, by omega⟩ (fun H1 locs1 hP => ?_)
  obtain ⟨ad1, τ1, ha1, hJ1, hN1⟩ := hP
  refine lv_istore hx hb dL_law_2648 hl (by decide) rfl (fun ls hl => ?_)
  refine lv_aload_n hx hb dL_law_2650 rfl (lv_at hl 4 rfl) ?_
  refine lw_arg (k := 1) F hJ1.2.2.2.2 hL hi (by decide) rfl (lv_at hl 6 rfl) (lv_at hl 1 rfl) dL_law_2651 dL_law_2652 dL_law_2654 dL_law_2655 dL_law_2656 ?_
  refine lw_mod (H0 := s.heap) (n := 1) (As := [.int (xs (i + 1))]) (rest := []) (v := [.long (if isP (xs (i + 1)) 0 3 then f_dues σ (xs (i + 1)) (nO σ) else 0)]) F hJ1 (k_dues l g s.heap.size ma hJ1.2.1.2 σ u (xs (i + 1)) hI) gL_law_X7_dues rfl rfl rfl (by decide +kernel) ⟨Nat.le_of_ble_eq_true rfl, Nat.le_of_ble_eq_true rfl⟩ rfl hl.1 rfl (Nat.le_of_ble_eq_true rfl) dL_law_2657 ⟨by omega, by omega⟩ rfl (fun H2 locs2 hJ2 hk => ?_)
  exact lw_tailL F (i_dues hI (xs (i + 1))) ha1 hJ2 (z_dues σ (xs (i + 1))) (fun h => (hN1 h).kept (hk _ hJ1.mO)) (fun h => r_dues hI (xs (i + 1)) h) hl dL_law_2660 dL_law_2662 dL_law_2663 dL_law_2666 dL_law_2668 dL_law_2673 dL_law_2675 dL_law_2678 dL_law_2679 dL_law_2680 dL_law_2681 dL_law_2683 dL_law_2684 dL_law_2689 (by decide) ⟨by decide, by decide⟩ hf kk
set_option maxHeartbeats 4000000 in
theorem lc_used (F : LAWF g p s m c b L xs) (hst : l.stackTraces = false) (hL : L ≤ 3072) (hi : i + 6 ≤ L) (hI : INV σ) (hJ : LJ g s.heap.size ad ma ou od σ u τ σ u s.heap H locs) (hf : cells + 20 ≤ room_1.cells ∧ slots + 200 ≤ room_1.slots) (hl : LOC ls b (ad 0 0) (ma 0) ou od i) (kk : KNT p l e s m b below meth c cells slots Q g (ad 0 0) ma ou od i) : W p l e room_1 s m #[Value.ref b] below meth c H locs cells slots Q (F0 m 2692 ls []) := by
  have hx := F.1
  have hb := F.2.1
  refine lv_aload_n hx hb dL_law_2692 rfl (lv_at hl 4 rfl) ?_
  refine lw_arg (k := 1) F hJ.2.2.2.2 hL hi (by decide) rfl (lv_at hl 5 rfl) (lv_at hl 0 rfl) dL_law_2693 dL_law_2694 dL_law_2696 dL_law_2697 dL_law_2698 ?_
  refine lv_aload_n hx hb dL_law_2699 rfl (lv_at hl 2 rfl) ?_
  refine lw_wrap (oc := ou) (n := 3) (t := (tD (xs (i + 1)))) (Fσ := (up σ 0 0 (tD (xs (i + 1))))) (Fu := u) (N := ANL g ou (u (ti (xs (i + 1))))) (As := [.ref (ad 0 0), .int (xs (i + 1)), .ref ou]) (rest := []) F hJ (qL_used l hst g s.heap.size ad σ u τ hI hJ.1.2 ou hJ.lo1 hJ.hO (xs (i + 1))) (fun U hU hE => ⟨by rw [hU]; exact hJ.1.1, by rw [hU]; exact hJ.2.2.1.1, hE⟩) (fun U a g9 mk q => ⟨q.1, q.2.1, q.2.2.calling g9 mk a⟩) (fun H1 L1 h1 h2 h3 => pw_ro (SMR.u0 _ _) hJ h1 h2 h3) gL_law_L_used rfl rfl rfl (by decide +kernel) ⟨Nat.le_of_ble_eq_true rfl, Nat.le_of_ble_eq_true rfl⟩ rfl hl.1 rfl (Nat.le_of_ble_eq_true rfl) dL_law_2700 ⟨by omega, by omega⟩ (fun H1 locs1 hP => ?_)
  obtain ⟨ad1, τ1, ha1, hJ1, hN1⟩ := hP
  refine lv_istore hx hb dL_law_2703 hl (by decide) rfl (fun ls hl => ?_)
  refine lv_aload_n hx hb dL_law_2705 rfl (lv_at hl 4 rfl) ?_
  refine lw_arg (k := 1) F hJ1.2.2.2.2 hL hi (by decide) rfl (lv_at hl 6 rfl) (lv_at hl 1 rfl) dL_law_2706 dL_law_2707 dL_law_2709 dL_law_2710 dL_law_2711 ?_
  refine lw_mod (H0 := s.heap) (n := 1) (As := [.int (xs (i + 1))]) (rest := []) (v := [.long (if okD (xs (i + 1)) then u (ti (xs (i + 1))) else 0)]) F hJ1 (k_used l g s.heap.size ma hJ1.2.1.2 σ u (xs (i + 1)) hI) gL_law_X7_used rfl rfl rfl (by decide +kernel) ⟨Nat.le_of_ble_eq_true rfl, Nat.le_of_ble_eq_true rfl⟩ rfl hl.1 rfl (Nat.le_of_ble_eq_true rfl) dL_law_2712 ⟨by omega, by omega⟩ rfl (fun H2 locs2 hJ2 hk => ?_)
  exact lw_tailL F (i_used hI (xs (i + 1))) ha1 hJ2 (z_used σ (xs (i + 1))) (fun h => (hN1 h).kept (hk _ hJ1.mO)) (fun h => r_used hI u (xs (i + 1)) h) hl dL_law_2715 dL_law_2717 dL_law_2718 dL_law_2721 dL_law_2723 dL_law_2728 dL_law_2730 dL_law_2733 dL_law_2734 dL_law_2735 dL_law_2736 dL_law_2738 dL_law_2739 dL_law_2744 (by decide) ⟨by decide, by decide⟩ hf kk
set_option maxHeartbeats 4000000 in
theorem lc_passedShare (F : LAWF g p s m c b L xs) (hst : l.stackTraces = false) (hL : L ≤ 3072) (hi : i + 6 ≤ L) (hI : INV σ) (hJ : LJ g s.heap.size ad ma ou od σ u τ σ u s.heap H locs) (hf : cells + 20 ≤ room_1.cells ∧ slots + 200 ≤ room_1.slots) (hl : LOC ls b (ad 0 0) (ma 0) ou od i) (kk : KNT p l e s m b below meth c cells slots Q g (ad 0 0) ma ou od i) : W p l e room_1 s m #[Value.ref b] below meth c H locs cells slots Q (F0 m 2747 ls []) := by
  have hx := F.1
  have hb := F.2.1
  refine lv_aload_n hx hb dL_law_2747 rfl (lv_at hl 4 rfl) ?_
  refine lv_aload hx hb dL_law_2748 (lv_at hl 1 rfl) ?_
  refine lw_wrap (oc := od) (n := 2) (t := (t_share σ)) (Fσ := (up σ 0 0 (t_share σ))) (Fu := u) (N := AND g od (FP.f2d (f_share σ))) (As := [.ref (ad 0 0), .ref od]) (rest := []) F hJ (qL_passedShare l hst g s.heap.size ad σ u τ hI hJ.1.2 od hJ.lo2 hJ.hOD) (fun U hU hE => ⟨by rw [hU]; exact hJ.1.1, by rw [hU]; exact hJ.2.2.1.2, hE⟩) (fun U a g9 mk q => ⟨q.1, q.2.1, q.2.2.calling g9 mk a⟩) (fun H1 L1 h1 h2 h3 => pw_roD (SMR.u0 _ _) hJ h1 h2 h3) gL_law_L_passedShare rfl rfl rfl (by decide +kernel) ⟨Nat.le_of_ble_eq_true rfl, Nat.le_of_ble_eq_true rfl⟩ rfl hl.1 rfl (Nat.le_of_ble_eq_true rfl) dL_law_2750 ⟨by omega, by omega⟩ (fun H1 locs1 hP => ?_)
  obtain ⟨ad1, τ1, ha1, hJ1, hN1⟩ := hP
  refine lv_istore hx hb dL_law_2753 hl (by decide) rfl (fun ls hl => ?_)
  refine lv_aload_n hx hb dL_law_2755 rfl (lv_at hl 4 rfl) ?_
  refine lw_mod (H0 := s.heap) (n := 0) (As := []) (rest := []) (v := [.float (if c_st σ 112 (nL σ) + c_st σ 120 (nL σ) = 0 then FP.fconst0 else f_share σ)]) F hJ1 (k_passedShare l g s.heap.size ma hJ1.2.1.2 σ u hI) gL_law_X7_passedShare rfl rfl rfl (by decide +kernel) ⟨Nat.le_of_ble_eq_true rfl, Nat.le_of_ble_eq_true rfl⟩ rfl hl.1 rfl (Nat.le_of_ble_eq_true rfl) dL_law_2756 ⟨by omega, by omega⟩ rfl (fun H2 locs2 hJ2 hk => ?_)
  refine lw_tailF F (i_passedShare hI) ha1 hJ2 (z_passedShare σ) (fun h => by rw [r_passedShare hI h]; exact (hN1 h).kept (hk _ hJ1.mOD)) (fun h => by rw [r_passedShare hI h]; exact share_d hI (share_ne h)) hl dL_law_2759 dL_law_2761 dL_law_2762 dL_law_2765 dL_law_2767 dL_law_2772 dL_law_2774 dL_law_2777 dL_law_2779 dL_law_2780 dL_law_2781 dL_law_2783 dL_law_2784 dL_law_2785 dL_law_2810 (by decide) ⟨by decide, by decide⟩ hf kk
set_option maxHeartbeats 4000000 in
theorem lc_meanOff (F : LAWF g p s m c b L xs) (hst : l.stackTraces = false) (hL : L ≤ 3072) (hi : i + 6 ≤ L) (hI : INV σ) (hJ : LJ g s.heap.size ad ma ou od σ u τ σ u s.heap H locs) (hf : cells + 20 ≤ room_1.cells ∧ slots + 200 ≤ room_1.slots) (hl : LOC ls b (ad 0 0) (ma 0) ou od i) (kk : KNT p l e s m b below meth c cells slots Q g (ad 0 0) ma ou od i) : W p l e room_1 s m #[Value.ref b] below meth c H locs cells slots Q (F0 m 2813 ls []) := by
  have hx := F.1
  have hb := F.2.1
  refine lv_aload_n hx hb dL_law_2813 rfl (lv_at hl 4 rfl) ?_
  refine lv_aload hx hb dL_law_2814 (lv_at hl 1 rfl) ?_
  refine lw_wrap (oc := od) (n := 2) (t := (t_mean σ)) (Fσ := (up σ 0 0 (t_mean σ))) (Fu := u) (N := AND g od (f_mean σ)) (As := [.ref (ad 0 0), .ref od]) (rest := []) F hJ (qL_meanOff l hst g s.heap.size ad σ u τ hI hJ.1.2 od hJ.lo2 hJ.hOD) (fun U hU hE => ⟨by rw [hU]; exact hJ.1.1, by rw [hU]; exact hJ.2.2.1.2, hE⟩) (fun U a g9 mk q => ⟨q.1, q.2.1, q.2.2.calling g9 mk a⟩) (fun H1 L1 h1 h2 h3 => pw_roD (SMR.u0 _ _) hJ h1 h2 h3) gL_law_L_meanOff rfl rfl rfl (by decide +kernel) ⟨Nat.le_of_ble_eq_true rfl, Nat.le_of_ble_eq_true rfl⟩ rfl hl.1 rfl (Nat.le_of_ble_eq_true rfl) dL_law_2816 ⟨by omega, by omega⟩ (fun H1 locs1 hP => ?_)
  obtain ⟨ad1, τ1, ha1, hJ1, hN1⟩ := hP
  refine lv_istore hx hb dL_law_2819 hl (by decide) rfl (fun ls hl => ?_)
  refine lv_aload_n hx hb dL_law_2821 rfl (lv_at hl 4 rfl) ?_
  refine lw_mod (H0 := s.heap) (n := 0) (As := []) (rest := []) (v := [.double (if c_nw σ (nL σ) = 0 then FP.dconst0 else f_mean σ)]) F hJ1 (k_meanOff l g s.heap.size ma hJ1.2.1.2 σ u hI) gL_law_X7_meanOff rfl rfl rfl (by decide +kernel) ⟨Nat.le_of_ble_eq_true rfl, Nat.le_of_ble_eq_true rfl⟩ rfl hl.1 rfl (Nat.le_of_ble_eq_true rfl) dL_law_2822 ⟨by omega, by omega⟩ rfl (fun H2 locs2 hJ2 hk => ?_)
  refine lw_tailD F (i_meanOff hI) ha1 hJ2 (z_meanOff σ) (fun h => by rw [r_meanOff hI h]; exact (hN1 h).kept (hk _ hJ1.mOD)) (fun h => by rw [r_meanOff hI h]; exact mean_n hI (mean_ne h)) hl dL_law_2825 dL_law_2827 dL_law_2828 dL_law_2831 dL_law_2833 dL_law_2838 dL_law_2840 dL_law_2843 dL_law_2845 dL_law_2846 dL_law_2847 dL_law_2849 dL_law_2850 dL_law_2875 (by decide) ⟨by decide, by decide⟩ hf kk
end LAWC
