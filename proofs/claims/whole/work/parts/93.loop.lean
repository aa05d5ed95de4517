/-! ===== the law, its steps and its loop ===== -/
section LAWC
variable {p : Program} {l : Launch} {e : Env} {s : State} {m : MethodId} {below : List Frame} {meth : Method} {c : Code} {H : Heap} {locs : List Loc} {cells slots : Nat} {Q : State → Prop}
variable {ls : Array Slot} {g : EG} {b L : Nat} {xs : Nat → Int32} {ad : Nat → Nat → Nat} {ma : Nat → Nat} {ou od : Nat} {σ τ : Sg} {u : Nat → Int64} {i : Nat}
theorem lw_x44 {x : Int32} (h : ¬ (x.toInt < 0 ∨ 43 < x.toInt)) : ∃ n : Nat, n < 44 ∧ x = nI n := ⟨x.toInt.toNat, by omega, Int32.toInt_inj.mp (by rw [nI_toInt (by omega)]; omega)⟩
theorem lw_left {n k : Nat} (hL : n ≤ 3072) (hk : k ≤ 3072) (h : ¬ Int32.ofNat n - 6 < nI k) : k + 6 ≤ n := by
  have e1 : (Int32.ofNat n).toInt = (n : Int) := nI_toInt (by omega)
  have e2 : (nI k).toInt = (k : Int) := nI_toInt (by omega)
  have e3 : (6 : Int32).toInt = 6 := by decide
  rw [Int32.lt_iff_toInt_lt, Int32.toInt_sub, e1, e2, e3, Int.bmod_eq_of_le_mul_two (by omega) (by omega)] at h
  omega
set_option maxHeartbeats 4000000 in
theorem lw_disp (F : LAWF g p s m c b L xs) (hst : l.stackTraces = false) (hL : L ≤ 3072) (hi : i + 6 ≤ L) (hI : INV σ) (hJ : LJ g s.heap.size ad ma ou od σ u τ σ u s.heap H locs) (hf : cells + 20 ≤ room_1.cells ∧ slots + 200 ≤ room_1.slots) (hl : LOC ls b (ad 0 0) (ma 0) ou od i) (kk : KNT p l e s m b below meth c cells slots Q g (ad 0 0) ma ou od i) : W p l e room_1 s m #[Value.ref b] below meth c H locs cells slots Q (F0 m 38 ls []) := by
  have hx := F.1
  have hb := F.2.1
  refine lv_aload_n hx hb dL_law_38 rfl (lv_at hl 5 rfl) ?_
  refine lv_iload hx hb dL_law_39 (lv_at hl 0 rfl) ?_
  refine lw_sld F hJ.2.2.2.2 (n := i) rfl (by omega) hL dL_law_41 ?_
  refine lv_bipush (v := 63) hx hb dL_law_42 rfl ?_
  refine lv_iand hx hb dL_law_44 ?_
  generalize xs i &&& 63 = x
  by_cases hn : x.toInt < 0 ∨ 43 < x.toInt
  · refine lv_tableOut (tgt := 2878) hx hb dL_law_45 hn (by decide) ?_
    refine W.widen (k := cells + 20) (n := slots + 200) (by omega) (by omega) ?_
    exact kk H locs ad σ u τ ls hI rfl hJ hl
  · obtain ⟨n, hn1, rfl⟩ := lw_x44 hn
    match n, hn1 with
    | 0, _ => exact lv_tableIn (tgt := 236) hx hb dL_law_45 (by decide) (by decide) rfl (by decide) (lc_addRecipe F hst hL hi hI hJ hf hl kk)
    | 1, _ => exact lv_tableIn (tgt := 316) hx hb dL_law_45 (by decide) (by decide) rfl (by decide) (lc_setDye F hst hL hi hI hJ hf hl kk)
    | 2, _ => exact lv_tableIn (tgt := 396) hx hb dL_law_45 (by decide) (by decide) rfl (by decide) (lc_supply F hst hL hi hI hJ hf hl kk)
    | 3, _ => exact lv_tableIn (tgt := 464) hx hb dL_law_45 (by decide) (by decide) rfl (by decide) (lc_stock F hst hL hi hI hJ hf hl kk)
    | 4, _ => exact lv_tableIn (tgt := 520) hx hb dL_law_45 (by decide) (by decide) rfl (by decide) (lc_addOrder F hst hL hi hI hJ hf hl kk)
    | 5, _ => exact lv_tableIn (tgt := 624) hx hb dL_law_45 (by decide) (by decide) rfl (by decide) (lc_addLot F hst hL hi hI hJ hf hl kk)
    | 6, _ => exact lv_tableIn (tgt := 692) hx hb dL_law_45 (by decide) (by decide) rfl (by decide) (lc_addVat F hst hL hi hI hJ hf hl kk)
    | 7, _ => exact lv_tableIn (tgt := 748) hx hb dL_law_45 (by decide) (by decide) rfl (by decide) (lc_needs F hst hL hi hI hJ hf hl kk)
    | 8, _ => exact lv_tableIn (tgt := 816) hx hb dL_law_45 (by decide) (by decide) rfl (by decide) (lc_hoursFor F hst hL hi hI hJ hf hl kk)
    | 9, _ => exact lv_tableIn (tgt := 872) hx hb dL_law_45 (by decide) (by decide) rfl (by decide) (lc_reason F hst hL hi hI hJ hf hl kk)
    | 10, _ => exact lv_tableIn (tgt := 940) hx hb dL_law_45 (by decide) (by decide) rfl (by decide) (lc_dye F hst hL hi hI hJ hf hl kk)
    | 11, _ => exact lv_tableIn (tgt := 1044) hx hb dL_law_45 (by decide) (by decide) rfl (by decide) (lc_clean F hst hL hi hI hJ hf hl kk)
    | 12, _ => exact lv_tableIn (tgt := 1100) hx hb dL_law_45 (by decide) (by decide) rfl (by decide) (lc_verdict F hst hL hi hI hJ hf hl kk)
    | 13, _ => exact lv_tableIn (tgt := 1156) hx hb dL_law_45 (by decide) (by decide) rfl (by decide) (lc_judge F hst hL hi hI hJ hf hl kk)
    | 14, _ => exact lv_tableIn (tgt := 1219) hx hb dL_law_45 (by decide) (by decide) rfl (by decide) (lc_again F hst hL hi hI hJ hf hl kk)
    | 15, _ => exact lv_tableIn (tgt := 1275) hx hb dL_law_45 (by decide) (by decide) rfl (by decide) (lc_plan F hst hL hi hI hJ hf hl kk)
    | 16, _ => exact lv_tableIn (tgt := 1343) hx hb dL_law_45 (by decide) (by decide) rfl (by decide) (lc_unplan F hst hL hi hI hJ hf hl kk)
    | 17, _ => exact lv_tableIn (tgt := 1399) hx hb dL_law_45 (by decide) (by decide) rfl (by decide) (lc_planned F hst hL hi hI hJ hf hl kk)
    | 18, _ => exact lv_tableIn (tgt := 1455) hx hb dL_law_45 (by decide) (by decide) rfl (by decide) (lc_plannedAt F hst hL hi hI hJ hf hl kk)
    | 19, _ => exact lv_tableIn (tgt := 1523) hx hb dL_law_45 (by decide) (by decide) rfl (by decide) (lc_leastHours F hst hL hi hI hJ hf hl kk)
    | 20, _ => exact lv_tableIn (tgt := 1579) hx hb dL_law_45 (by decide) (by decide) rfl (by decide) (lc_leastByAll F hst hL hi hI hJ hf hl kk)
    | 21, _ => exact lv_tableIn (tgt := 1635) hx hb dL_law_45 (by decide) (by decide) rfl (by decide) (lc_firstOf F hst hL hi hI hJ hf hl kk)
    | 22, _ => exact lv_tableIn (tgt := 1691) hx hb dL_law_45 (by decide) (by decide) rfl (by decide) (lc_recipes F hst hL hi hI hJ hf hl kk)
    | 23, _ => exact lv_tableIn (tgt := 1704) hx hb dL_law_45 (by decide) (by decide) rfl (by decide) (lc_lots F hst hL hi hI hJ hf hl kk)
    | 24, _ => exact lv_tableIn (tgt := 1717) hx hb dL_law_45 (by decide) (by decide) rfl (by decide) (lc_stateOf F hst hL hi hI hJ hf hl kk)
    | 25, _ => exact lv_tableIn (tgt := 1773) hx hb dL_law_45 (by decide) (by decide) rfl (by decide) (lc_shadeOf F hst hL hi hI hJ hf hl kk)
    | 26, _ => exact lv_tableIn (tgt := 1841) hx hb dL_law_45 (by decide) (by decide) rfl (by decide) (lc_vatOf F hst hL hi hI hJ hf hl kk)
    | 27, _ => exact lv_tableIn (tgt := 1897) hx hb dL_law_45 (by decide) (by decide) rfl (by decide) (lc_offBy F hst hL hi hI hJ hf hl kk)
    | 28, _ => exact lv_tableIn (tgt := 1953) hx hb dL_law_45 (by decide) (by decide) rfl (by decide) (lc_distance F hst hL hi hI hJ hf hl kk)
    | 29, _ => exact lv_tableIn (tgt := 2021) hx hb dL_law_45 (by decide) (by decide) rfl (by decide) (lc_nearest F hst hL hi hI hJ hf hl kk)
    | 30, _ => exact lv_tableIn (tgt := 2077) hx hb dL_law_45 (by decide) (by decide) rfl (by decide) (lc_byLight F hst hL hi hI hJ hf hl kk)
    | 31, _ => exact lv_tableIn (tgt := 2133) hx hb dL_law_45 (by decide) (by decide) rfl (by decide) (lc_clock F hst hL hi hI hJ hf hl kk)
    | 32, _ => exact lv_tableIn (tgt := 2189) hx hb dL_law_45 (by decide) (by decide) rfl (by decide) (lc_cleanings F hst hL hi hI hJ hf hl kk)
    | 33, _ => exact lv_tableIn (tgt := 2245) hx hb dL_law_45 (by decide) (by decide) rfl (by decide) (lc_lightIn F hst hL hi hI hJ hf hl kk)
    | 34, _ => exact lv_tableIn (tgt := 2301) hx hb dL_law_45 (by decide) (by decide) rfl (by decide) (lc_customerOf F hst hL hi hI hJ hf hl kk)
    | 35, _ => exact lv_tableIn (tgt := 2357) hx hb dL_law_45 (by decide) (by decide) rfl (by decide) (lc_lotsOf F hst hL hi hI hJ hf hl kk)
    | 36, _ => exact lv_tableIn (tgt := 2413) hx hb dL_law_45 (by decide) (by decide) rfl (by decide) (lc_passedOf F hst hL hi hI hJ hf hl kk)
    | 37, _ => exact lv_tableIn (tgt := 2469) hx hb dL_law_45 (by decide) (by decide) rfl (by decide) (lc_spread F hst hL hi hI hJ hf hl kk)
    | 38, _ => exact lv_tableIn (tgt := 2525) hx hb dL_law_45 (by decide) (by decide) rfl (by decide) (lc_lateBy F hst hL hi hI hJ hf hl kk)
    | 39, _ => exact lv_tableIn (tgt := 2581) hx hb dL_law_45 (by decide) (by decide) rfl (by decide) (lc_due F hst hL hi hI hJ hf hl kk)
    | 40, _ => exact lv_tableIn (tgt := 2637) hx hb dL_law_45 (by decide) (by decide) rfl (by decide) (lc_dues F hst hL hi hI hJ hf hl kk)
    | 41, _ => exact lv_tableIn (tgt := 2692) hx hb dL_law_45 (by decide) (by decide) rfl (by decide) (lc_used F hst hL hi hI hJ hf hl kk)
    | 42, _ => exact lv_tableIn (tgt := 2747) hx hb dL_law_45 (by decide) (by decide) rfl (by decide) (lc_passedShare F hst hL hi hI hJ hf hl kk)
    | 43, _ => exact lv_tableIn (tgt := 2813) hx hb dL_law_45 (by decide) (by decide) rfl (by decide) (lc_meanOff F hst hL hi hI hJ hf hl kk)
    | n + 44, h => exact absurd h (by omega)
theorem lw_head {a0 j : Nat} (F : LAWF g p s m c b L xs) (hst : l.stackTraces = false) (hL : L ≤ 3072) (hj : j ≤ 3072) (hI : INV σ) (ha : ad 0 0 = a0) (hJ : LJ g s.heap.size ad ma ou od σ u τ σ u s.heap H locs) (hf : cells + 20 ≤ room_1.cells ∧ slots + 200 ≤ room_1.slots) (hl : LOC ls b a0 (ma 0) ou od j)
    (kend : W p l e room_1 s m #[Value.ref b] below meth c H locs cells slots Q (F0 m 2884 ls [])) (kk : j + 6 ≤ L → KNT p l e s m b below meth c cells slots Q g a0 ma ou od j) : W p l e room_1 s m #[Value.ref b] below meth c H locs cells slots Q (F0 m 28 ls []) := by
  subst ha
  have hx := F.1
  have hb := F.2.1
  refine lv_iload hx hb dL_law_28 (lv_at hl 0 rfl) ?_
  refine lv_aload_n hx hb dL_law_30 rfl (lv_at hl 5 rfl) ?_
  refine va_slen hx hb F.2.2.2.2.2.1 F.2.2.2.2.2.2.1 (Nat.not_le.mpr F.2.2.2.2.2.2.1) hJ.2.2.2.2 dL_law_31 ?_
  refine lv_bipush (v := 6) hx hb dL_law_32 rfl ?_
  refine lv_isub hx hb dL_law_34 ?_
  refine lv_icmp_gt (tgt := 2884) hx hb dL_law_35 (by decide) (fun _ => kend) (fun hc => ?_)
  have hi := lw_left hL hj hc
  exact lw_disp F hst hL hi hI hJ hf hl (kk hi)
theorem lw_loop {a0 : Nat} (F : LAWF g p s m c b L xs) (hst : l.stackTraces = false) (hL : L ≤ 3072) (kend : ∀ (H : Heap) (locs : List Loc) (cells slots : Nat) (ls : Array Slot), va_S (fun q => s.heap.size ≤ q) s.heap H locs → cells ≤ 870031 → slots ≤ 6402042 → W p l e room_1 s m #[Value.ref b] below meth c H locs cells slots Q (F0 m 2884 ls [])) :
    ∀ (n j : Nat), L ≤ 6 * j + 6 * n → 6 * j ≤ 3072 → ∀ (H : Heap) (locs : List Loc) (ad : Nat → Nat → Nat) (σ : Sg) (u : Nat → Int64) (τ : Sg) (ls : Array Slot), INV σ → ad 0 0 = a0 → LJ g s.heap.size ad ma ou od σ u τ σ u s.heap H locs → LOC ls b a0 (ma 0) ou od (6 * j) → W p l e room_1 s m #[Value.ref b] below meth c H locs (64 + 20 * j) (800 + 200 * j) Q (F0 m 28 ls [])
  | n, j, hn, hj, H, locs, ad, σ, u, τ, ls, hI, ha, hJ, hl => by
    have hc : room_1.cells = 870031 := rfl
    have hs : room_1.slots = 6402042 := rfl
    refine lw_head F hst hL hj hI ha hJ ⟨by omega, by omega⟩ hl (kend H locs _ _ ls hJ.2.2.2.2 (by omega) (by omega)) (fun hi => ?_)
    match n, hn with
    | 0, hn => exact absurd hi (by omega)
    | n + 1, hn =>
      intro H1 locs1 ad1 σ1 u1 τ1 ls1 hI1 ha1 hJ1 hl1
      refine lv_iinc (v := nI (6 * (j + 1))) F.1 F.2.1 dL_law_2878 hl1 (k := 0) rfl (by rw [show 6 * (j + 1) = 6 * j + 6 by omega]; exact (Int32.ofNat_add (6 * j) 6).symm) (by decide) rfl (fun ls hl => ?_)
      refine lv_goto (tgt := 28) F.1 F.2.1 dL_law_2881 (by decide) ?_
      rw [show 64 + 20 * j + 20 = 64 + 20 * (j + 1) by omega, show 800 + 200 * j + 200 = 800 + 200 * (j + 1) by omega]
      exact lw_loop F hst hL kend n (j + 1) (by omega) (by omega) H1 locs1 ad1 σ1 u1 τ1 ls hI1 ha1 hJ1 hl
end LAWC
