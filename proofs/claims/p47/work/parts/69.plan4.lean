set_option maxHeartbeats 4000000 in
set_option maxRecDepth 100000 in
theorem qX6_leastHours (la : Launch) (hst : la.stackTraces = false) (g : EG) (lo : Nat) (ad : Nat → Nat → Nat) (σ : Sg) (u : Nat → Int64) (τ : Sg) (hI : INV σ) (hA : XA lo ad σ) (v : Int32) : vx_Met la yX6_leastHours wsX6_leastHours ({ frames := 10, cells := 1, slots := 6, locals := 267 } : Room) (va_Pc [.ref (ad 0 0), .int v] (fun U => XR g ad σ u τ U.heap ∧ EVN g lo U)) (QXM (exOf 1 0 0 (tV σ v)) (.returned (some (.int (nI (bestP σ v).1)))) (fun H9 => ∃ τ9, XR g ad σ u τ9 H9) (xown ad σ)) (XX (exOf 1 0 0 (tV σ v))) 1 6 (fun q => lo ≤ q) := by
  refine vx_ofW (cc := cX6_leastHours) (maxL := 2) (ret := (some .int)) (by decide) rfl ?_
  intro p e s m args below meth c s₁ B hml ht hv
  obtain ⟨rfl, hX, hE9⟩ := hv
  have hE := hE9.1
  have hN := hE9.kn
  have hK := hE.1
  have hx := B.exec
  have hb := B.bytes
  have hr := B.returns
  have hts := atoms_spec (ws := wsX6_leastHours) B.pre
  have hown : s.vm.findClass RX6 = some m.cls := findClass_of_methodNamed B.named
  have hlocks := B.notSynchronized
  have hinX6 : ∀ w ∈ wsX60, w ∈ wsX6_leastHours := by decide +kernel
  have lk44 := hts (.fieldLink RX6 44 "DyehouseLedger" "planAtHand" "LDyehouseLedger$Plan;") (by decide +kernel)
  have hl := lv_entry ([.ref (ad 0 0), .int v]) (n := 2) (Nat.le_of_ble_eq_true rfl)
  rw [lg_entry_eq]
  generalize (lg_sl ([.ref (ad 0 0), .int v]) ++ List.replicate (2 - (lg_sl ([.ref (ad 0 0), .int v])).length) Slot.unset).toArray = ls at hl ⊢
  have hl : lv_has ls 2 [(0, .ref (ad 0 0)), (1, .int v)] := hl
  have hbL := hI.l.1
  have hbO := hI.o.1
  have hbV := hI.v.1
  by_cases kv9 : okV σ v
  · obtain ⟨w, hw, rfl⟩ := vp_in_of ((okV_in hI v).mp kv9) (Nat.lt_of_le_of_lt hI.v.1 (by decide))
    have hbw : nV σ ≤ _ := hI.v.1
    have etw : ti (nI w) = w := ti_nI (by omega)
    refine lv_aload_n hx hb dX6_leastHours_0 rfl (lv_at hl 0 rfl) ?_
    refine lv_aload_n hx hb dX6_leastHours_1 rfl (lv_at hl 0 rfl) ?_
    refine lv_iload_n hx hb dX6_leastHours_2 rfl (lv_at hl 1 rfl) ?_
    refine xc_v (n := 1) (As := [.int (nI w)]) (rest := [.ref (ad 0 0)]) (v := [.ref (ad 18 w)]) ⟨hx, hb, hml, hown, hts⟩ hE hX ht hlocks (fun q => absurd (show eV σ (nI w) = 0 from if_pos kv9) q) (qX6_vatNumbered la hst g lo ad σ u τ hI (nI w)) gX6_leastHours_X6_vatNumbered rfl rfl rfl (by decide +kernel) ⟨Nat.le_of_ble_eq_true rfl, Nat.le_of_ble_eq_true rfl⟩ rfl hl.1 rfl (Nat.le_of_ble_eq_true rfl) dX6_leastHours_3 ⟨Nat.le_of_ble_eq_true rfl, Nat.le_of_ble_eq_true rfl⟩ ⟨Nat.le_of_ble_eq_true rfl, Nat.le_of_ble_eq_true rfl⟩ (fun _ => congrArg (fun z => [Value.ref (ad 18 z)]) (ti_nI (by omega))) (fun h_1 => ?_)
    have kv : vp_in (nI w) (nV σ) := vin_nI hw (by omega)
    refine xc_mup (n := 1) (K := 0) (i := 0) (As := [.ref (ad 18 w)]) (rest := []) (v := []) ⟨hx, hb, hml, hown, hts⟩ hK (XS.start (lo := lo) hX) Nat.zero_lt_one rfl rfl (qX6_fillPlan la g lo ad σ u τ hA hI w hw) gX6_leastHours_X6_fillPlan rfl rfl rfl (by decide +kernel) ⟨Nat.le_of_ble_eq_true rfl, Nat.le_of_ble_eq_true rfl⟩ rfl hl.1 rfl (Nat.le_of_ble_eq_true rfl) dX6_leastHours_6 ⟨Nat.le_of_ble_eq_true rfl, Nat.le_of_ble_eq_true rfl⟩ rfl (fun H locs hq1 hq2 hq3 hq4 => ?_)
    obtain ⟨t9, hX, hF⟩ := hq1
    have hPL := FIL_PL hI kv hF
    refine lv_aload_n hx hb dX6_leastHours_9 rfl (lv_at hl 0 rfl) ?_
    refine x_get (K := 0) (i := 0) (v := .ref (ad 7 0)) hx hb hts hinX6 hown hK hX (show 0 < 1 from Nat.zero_lt_one) 6 rfl rfl (by decide) rfl lk44 rfl dX6_leastHours_10 ?_
    refine xn_ro (n := 0) (K := 7) (i := 0) (As := []) (rest := []) (v := [.int (nI (hsm (hrP σ (nI w)) (List.range (nP σ (nI w)))))]) ⟨hx, hb, hml, hown, hts⟩ hN hX Nat.zero_lt_one rfl rfl (qX2_dyeingHours la g ad σ u t9 (nP σ (nI w)) (ltP σ (nI w)) (cuP σ (nI w)) (hrP σ (nI w)) hPL) gX6_leastHours_X2_dyeingHours rfl rfl rfl (by decide +kernel) ⟨Nat.le_of_ble_eq_true rfl, Nat.le_of_ble_eq_true rfl⟩ rfl hl.1 rfl (Nat.le_of_ble_eq_true rfl) dX6_leastHours_13 ⟨Nat.le_of_ble_eq_true rfl, Nat.le_of_ble_eq_true rfl⟩ rfl ?_
    refine lv_iconst (v := 3) hx hb dX6_leastHours_16 (by decide) ?_
    refine lv_aload_n hx hb dX6_leastHours_17 rfl (lv_at hl 0 rfl) ?_
    refine x_get (K := 0) (i := 0) (v := .ref (ad 7 0)) hx hb hts hinX6 hown hK hX (show 0 < 1 from Nat.zero_lt_one) 6 rfl rfl (by decide) rfl lk44 rfl dX6_leastHours_18 ?_
    refine xn_ro (n := 0) (K := 7) (i := 0) (As := []) (rest := [.int 3, .int (nI (hsm (hrP σ (nI w)) (List.range (nP σ (nI w)))))]) (v := [.int (nI (fwF (ltP σ (nI w)) (cuP σ (nI w)) (nP σ (nI w)) (nP σ (nI w)) 0 (t9 5 0) (t9 6 0) 0 ((nP σ (nI w)) + 1)))]) ⟨hx, hb, hml, hown, hts⟩ hN hX Nat.zero_lt_one rfl rfl (qX2_fewestCleanings la g ad σ u t9 (nP σ (nI w)) (ltP σ (nI w)) (cuP σ (nI w)) (hrP σ (nI w)) hPL) gX6_leastHours_X2_fewestCleanings rfl rfl rfl (by decide +kernel) ⟨Nat.le_of_ble_eq_true rfl, Nat.le_of_ble_eq_true rfl⟩ rfl hl.1 rfl (Nat.le_of_ble_eq_true rfl) dX6_leastHours_21 ⟨Nat.le_of_ble_eq_true rfl, Nat.le_of_ble_eq_true rfl⟩ rfl ?_
    refine lv_imul hx hb dX6_leastHours_24 ?_
    refine lv_iadd hx hb dX6_leastHours_25 ?_
    refine vx_ret ?_
    refine W.widen (k := 1) (n := 6) (Nat.le_of_ble_eq_true rfl) (Nat.le_of_ble_eq_true rfl) ?_
    exact W.iret (v := ((nI (hsm (hrP σ (nI w)) (List.range (nP σ (nI w))))) + (3 * (nI (fwF (ltP σ (nI w)) (cuP σ (nI w)) (nP σ (nI w)) (nP σ (nI w)) 0 (t9 5 0) (t9 6 0) 0 ((nP σ (nI w)) + 1)))))) hx hb hr (fun t ht9 hW => ⟨(show (exOf 1 0 0 (tV σ (nI w))) = 0 from by rw [show (tV σ (nI w)) = 0 from (by simp only [tD, tL, tV, tO, tW, tLV, tN, t_setDye, t_supply, t_plan, t_unplan, t_dye, okW, t_firstOf, etw]; (repeat' split) <;> first | rfl | contradiction | (exfalso; simp_all [-Int32.not_lt, -Int32.not_le]; done))]; rfl), congrArg (fun z => Outcome.returned (some (Value.int z))) (cls_lh hI kv hF), by rw [ht9]; exact ⟨t9, hX⟩, by rw [ht9]; exact Nat.le_of_eq hq2.symm, fun q _ hq => by rw [ht9]; exact hq3 q hq⟩) hq4 dX6_leastHours_26
  · refine lv_aload_n hx hb dX6_leastHours_0 rfl (lv_at hl 0 rfl) ?_
    refine lv_aload_n hx hb dX6_leastHours_1 rfl (lv_at hl 0 rfl) ?_
    refine lv_iload_n hx hb dX6_leastHours_2 rfl (lv_at hl 1 rfl) ?_
    refine xc_v (n := 1) (As := [.int v]) (rest := [.ref (ad 0 0)]) (v := [.ref (ad 18 (ti v))]) ⟨hx, hb, hml, hown, hts⟩ hE hX ht hlocks (fun _ => ((show (exOf 1 0 0 (tV σ v)) = 1 from by rw [show (tV σ v) = 1 from (by simp only [tD, tL, tV, tO, tW, tLV, tN, t_setDye, t_supply, t_plan, t_unplan, t_dye, okW, t_firstOf]; (repeat' split) <;> first | rfl | contradiction | (exfalso; simp_all [-Int32.not_lt, -Int32.not_le]; done))]; rfl)).trans (show eV σ v = 1 from if_neg kv9).symm) (qX6_vatNumbered la hst g lo ad σ u τ hI v) gX6_leastHours_X6_vatNumbered rfl rfl rfl (by decide +kernel) ⟨Nat.le_of_ble_eq_true rfl, Nat.le_of_ble_eq_true rfl⟩ rfl hl.1 rfl (Nat.le_of_ble_eq_true rfl) dX6_leastHours_3 ⟨Nat.le_of_ble_eq_true rfl, Nat.le_of_ble_eq_true rfl⟩ ⟨Nat.le_of_ble_eq_true rfl, Nat.le_of_ble_eq_true rfl⟩ (fun _ => rfl) (fun h_3 => ?_)
    exact absurd h_3 (by rw [show eV σ v = 1 from if_neg kv9]; decide)
set_option maxHeartbeats 4000000 in
set_option maxRecDepth 100000 in
theorem qX6_leastByAll (la : Launch) (hst : la.stackTraces = false) (g : EG) (lo : Nat) (ad : Nat → Nat → Nat) (σ : Sg) (u : Nat → Int64) (τ : Sg) (hI : INV σ) (hA : XA lo ad σ) (v : Int32) : vx_Met la yX6_leastByAll wsX6_leastByAll ({ frames := 10, cells := 1, slots := 6, locals := 267 } : Room) (va_Pc [.ref (ad 0 0), .int v] (fun U => XR g ad σ u τ U.heap ∧ EVN g lo U)) (QXM (exOf 1 0 0 (tV σ v)) (.returned (some (.int (nI (bestP σ v).1)))) (fun H9 => ∃ τ9, XR g ad σ u τ9 H9) (xown ad σ)) (XX (exOf 1 0 0 (tV σ v))) 1 6 (fun q => lo ≤ q) := by
  refine vx_ofW (cc := cX6_leastByAll) (maxL := 2) (ret := (some .int)) (by decide) rfl ?_
  intro p e s m args below meth c s₁ B hml ht hv
  obtain ⟨rfl, hX, hE9⟩ := hv
  have hE := hE9.1
  have hN := hE9.kn
  have hK := hE.1
  have hx := B.exec
  have hb := B.bytes
  have hr := B.returns
  have hts := atoms_spec (ws := wsX6_leastByAll) B.pre
  have hown : s.vm.findClass RX6 = some m.cls := findClass_of_methodNamed B.named
  have hlocks := B.notSynchronized
  have hinX6 : ∀ w ∈ wsX60, w ∈ wsX6_leastByAll := by decide +kernel
  have lk44 := hts (.fieldLink RX6 44 "DyehouseLedger" "planAtHand" "LDyehouseLedger$Plan;") (by decide +kernel)
  have hl := lv_entry ([.ref (ad 0 0), .int v]) (n := 2) (Nat.le_of_ble_eq_true rfl)
  rw [lg_entry_eq]
  generalize (lg_sl ([.ref (ad 0 0), .int v]) ++ List.replicate (2 - (lg_sl ([.ref (ad 0 0), .int v])).length) Slot.unset).toArray = ls at hl ⊢
  have hl : lv_has ls 2 [(0, .ref (ad 0 0)), (1, .int v)] := hl
  have hbL := hI.l.1
  have hbO := hI.o.1
  have hbV := hI.v.1
  by_cases kv9 : okV σ v
  · obtain ⟨w, hw, rfl⟩ := vp_in_of ((okV_in hI v).mp kv9) (Nat.lt_of_le_of_lt hI.v.1 (by decide))
    have hbw : nV σ ≤ _ := hI.v.1
    have etw : ti (nI w) = w := ti_nI (by omega)
    refine lv_aload_n hx hb dX6_leastByAll_0 rfl (lv_at hl 0 rfl) ?_
    refine lv_aload_n hx hb dX6_leastByAll_1 rfl (lv_at hl 0 rfl) ?_
    refine lv_iload_n hx hb dX6_leastByAll_2 rfl (lv_at hl 1 rfl) ?_
    refine xc_v (n := 1) (As := [.int (nI w)]) (rest := [.ref (ad 0 0)]) (v := [.ref (ad 18 w)]) ⟨hx, hb, hml, hown, hts⟩ hE hX ht hlocks (fun q => absurd (show eV σ (nI w) = 0 from if_pos kv9) q) (qX6_vatNumbered la hst g lo ad σ u τ hI (nI w)) gX6_leastByAll_X6_vatNumbered rfl rfl rfl (by decide +kernel) ⟨Nat.le_of_ble_eq_true rfl, Nat.le_of_ble_eq_true rfl⟩ rfl hl.1 rfl (Nat.le_of_ble_eq_true rfl) dX6_leastByAll_3 ⟨Nat.le_of_ble_eq_true rfl, Nat.le_of_ble_eq_true rfl⟩ ⟨Nat.le_of_ble_eq_true rfl, Nat.le_of_ble_eq_true rfl⟩ (fun _ => congrArg (fun z => [Value.ref (ad 18 z)]) (ti_nI (by omega))) (fun h_1 => ?_)
    have kv : vp_in (nI w) (nV σ) := vin_nI hw (by omega)
    refine xc_mup (n := 1) (K := 0) (i := 0) (As := [.ref (ad 18 w)]) (rest := []) (v := []) ⟨hx, hb, hml, hown, hts⟩ hK (XS.start (lo := lo) hX) Nat.zero_lt_one rfl rfl (qX6_fillPlan la g lo ad σ u τ hA hI w hw) gX6_leastByAll_X6_fillPlan rfl rfl rfl (by decide +kernel) ⟨Nat.le_of_ble_eq_true rfl, Nat.le_of_ble_eq_true rfl⟩ rfl hl.1 rfl (Nat.le_of_ble_eq_true rfl) dX6_leastByAll_6 ⟨Nat.le_of_ble_eq_true rfl, Nat.le_of_ble_eq_true rfl⟩ rfl (fun H locs hq1 hq2 hq3 hq4 => ?_)
    obtain ⟨t9, hX, hF⟩ := hq1
    have hPL := FIL_PL hI kv hF
    refine lv_aload_n hx hb dX6_leastByAll_9 rfl (lv_at hl 0 rfl) ?_
    refine x_get (K := 0) (i := 0) (v := .ref (ad 7 0)) hx hb hts hinX6 hown hK hX (show 0 < 1 from Nat.zero_lt_one) 6 rfl rfl (by decide) rfl lk44 rfl dX6_leastByAll_10 ?_
    refine xn_ro (n := 0) (K := 7) (i := 0) (As := []) (rest := []) (v := [.int (nI (laF (ltP σ (nI w)) (cuP σ (nI w)) (hrP σ (nI w)) (nP σ (nI w)) (nP σ (nI w)) 0 (t9 5 0) (t9 6 0) 0))]) ⟨hx, hb, hml, hown, hts⟩ hN hX Nat.zero_lt_one rfl rfl (qX2_leastOfAllOrders la g ad σ u t9 (nP σ (nI w)) (ltP σ (nI w)) (cuP σ (nI w)) (hrP σ (nI w)) hPL) gX6_leastByAll_X2_leastOfAllOrders rfl rfl rfl (by decide +kernel) ⟨Nat.le_of_ble_eq_true rfl, Nat.le_of_ble_eq_true rfl⟩ rfl hl.1 rfl (Nat.le_of_ble_eq_true rfl) dX6_leastByAll_13 ⟨Nat.le_of_ble_eq_true rfl, Nat.le_of_ble_eq_true rfl⟩ rfl ?_
    refine vx_ret ?_
    refine W.widen (k := 1) (n := 6) (Nat.le_of_ble_eq_true rfl) (Nat.le_of_ble_eq_true rfl) ?_
    exact W.iret (v := (nI (laF (ltP σ (nI w)) (cuP σ (nI w)) (hrP σ (nI w)) (nP σ (nI w)) (nP σ (nI w)) 0 (t9 5 0) (t9 6 0) 0))) hx hb hr (fun t ht9 hW => ⟨(show (exOf 1 0 0 (tV σ (nI w))) = 0 from by rw [show (tV σ (nI w)) = 0 from (by simp only [tD, tL, tV, tO, tW, tLV, tN, t_setDye, t_supply, t_plan, t_unplan, t_dye, okW, t_firstOf, etw]; (repeat' split) <;> first | rfl | contradiction | (exfalso; simp_all [-Int32.not_lt, -Int32.not_le]; done))]; rfl), congrArg (fun z => Outcome.returned (some (Value.int z))) (cls_la hI kv hF), by rw [ht9]; exact ⟨t9, hX⟩, by rw [ht9]; exact Nat.le_of_eq hq2.symm, fun q _ hq => by rw [ht9]; exact hq3 q hq⟩) hq4 dX6_leastByAll_16
  · refine lv_aload_n hx hb dX6_leastByAll_0 rfl (lv_at hl 0 rfl) ?_
    refine lv_aload_n hx hb dX6_leastByAll_1 rfl (lv_at hl 0 rfl) ?_
    refine lv_iload_n hx hb dX6_leastByAll_2 rfl (lv_at hl 1 rfl) ?_
    refine xc_v (n := 1) (As := [.int v]) (rest := [.ref (ad 0 0)]) (v := [.ref (ad 18 (ti v))]) ⟨hx, hb, hml, hown, hts⟩ hE hX ht hlocks (fun _ => ((show (exOf 1 0 0 (tV σ v)) = 1 from by rw [show (tV σ v) = 1 from (by simp only [tD, tL, tV, tO, tW, tLV, tN, t_setDye, t_supply, t_plan, t_unplan, t_dye, okW, t_firstOf]; (repeat' split) <;> first | rfl | contradiction | (exfalso; simp_all [-Int32.not_lt, -Int32.not_le]; done))]; rfl)).trans (show eV σ v = 1 from if_neg kv9).symm) (qX6_vatNumbered la hst g lo ad σ u τ hI v) gX6_leastByAll_X6_vatNumbered rfl rfl rfl (by decide +kernel) ⟨Nat.le_of_ble_eq_true rfl, Nat.le_of_ble_eq_true rfl⟩ rfl hl.1 rfl (Nat.le_of_ble_eq_true rfl) dX6_leastByAll_3 ⟨Nat.le_of_ble_eq_true rfl, Nat.le_of_ble_eq_true rfl⟩ ⟨Nat.le_of_ble_eq_true rfl, Nat.le_of_ble_eq_true rfl⟩ (fun _ => rfl) (fun h_3 => ?_)
    exact absurd h_3 (by rw [show eV σ v = 1 from if_neg kv9]; decide)
theorem tw_inX6_firstOf_3 : ∀ w ∈ (vx_at0 RX6 58 (en 3) exN).filter goodWord, w ∈ wsX6_firstOf := by decide +kernel
set_option maxHeartbeats 4000000 in
set_option maxRecDepth 100000 in
theorem qX6_firstOf (la : Launch) (hst : la.stackTraces = false) (g : EG) (lo : Nat) (ad : Nat → Nat → Nat) (σ : Sg) (u : Nat → Int64) (τ : Sg) (hI : INV σ) (hA : XA lo ad σ) (v : Int32) : vx_Met la yX6_firstOf wsX6_firstOf ({ frames := 11, cells := 2, slots := 12, locals := 293 } : Room) (va_Pc [.ref (ad 0 0), .int v] (fun U => XR g ad σ u τ U.heap ∧ EVN g lo U)) (QXM (exOf 1 3 0 (t_firstOf σ v)) (.returned (some (.int (tkP σ v (bestP σ v).2)))) (fun H9 => ∃ τ9, XR g ad σ u τ9 H9) (xown ad σ)) (XX (exOf 1 3 0 (t_firstOf σ v))) 2 12 (fun q => lo ≤ q) := by
  refine vx_ofW (cc := cX6_firstOf) (maxL := 3) (ret := (some .int)) (by decide) rfl ?_
  intro p e s m args below meth c s₁ B hml ht hv
  obtain ⟨rfl, hX, hE9⟩ := hv
  have hE := hE9.1
  have hN := hE9.kn
  have hK := hE.1
  have hx := B.exec
  have hb := B.bytes
  have hr := B.returns
  have hts := atoms_spec (ws := wsX6_firstOf) B.pre
  have hown : s.vm.findClass RX6 = some m.cls := findClass_of_methodNamed B.named
  have hlocks := B.notSynchronized
  have hinX6 : ∀ w ∈ wsX60, w ∈ wsX6_firstOf := by decide +kernel
  have lk44 := hts (.fieldLink RX6 44 "DyehouseLedger" "planAtHand" "LDyehouseLedger$Plan;") (by decide +kernel)
  have ti3 := hts (.initialized "java/lang/IllegalStateException") (by decide +kernel)
  have tk3 := hts (.classLink RX6 56 "java/lang/IllegalStateException") (by decide +kernel)
  have tw3 : ∀ w ∈ (vx_at0 RX6 58 (en 3) exN).filter goodWord, w.before _ s = true := fun w h => hts w (tw_inX6_firstOf_3 w h)
  have hl := lv_entry ([.ref (ad 0 0), .int v]) (n := 3) (Nat.le_of_ble_eq_true rfl)
  rw [lg_entry_eq]
  generalize (lg_sl ([.ref (ad 0 0), .int v]) ++ List.replicate (3 - (lg_sl ([.ref (ad 0 0), .int v])).length) Slot.unset).toArray = ls at hl ⊢
  have hl : lv_has ls 3 [(0, .ref (ad 0 0)), (1, .int v)] := hl
  have hbL := hI.l.1
  have hbO := hI.o.1
  have hbV := hI.v.1
  by_cases kv9 : okV σ v
  · obtain ⟨w, hw, rfl⟩ := vp_in_of ((okV_in hI v).mp kv9) (Nat.lt_of_le_of_lt hI.v.1 (by decide))
    have hbw : nV σ ≤ _ := hI.v.1
    have etw : ti (nI w) = w := ti_nI (by omega)
    refine lv_aload_n hx hb dX6_firstOf_0 rfl (lv_at hl 0 rfl) ?_
    refine lv_iload_n hx hb dX6_firstOf_1 rfl (lv_at hl 1 rfl) ?_
    refine xc_v (n := 1) (As := [.int (nI w)]) (rest := []) (v := [.ref (ad 18 w)]) ⟨hx, hb, hml, hown, hts⟩ hE hX ht hlocks (fun q => absurd (show eV σ (nI w) = 0 from if_pos kv9) q) (qX6_vatNumbered la hst g lo ad σ u τ hI (nI w)) gX6_firstOf_X6_vatNumbered rfl rfl rfl (by decide +kernel) ⟨Nat.le_of_ble_eq_true rfl, Nat.le_of_ble_eq_true rfl⟩ rfl hl.1 rfl (Nat.le_of_ble_eq_true rfl) dX6_firstOf_2 ⟨Nat.le_of_ble_eq_true rfl, Nat.le_of_ble_eq_true rfl⟩ ⟨Nat.le_of_ble_eq_true rfl, Nat.le_of_ble_eq_true rfl⟩ (fun _ => congrArg (fun z => [Value.ref (ad 18 z)]) (ti_nI (by omega))) (fun h_1 => ?_)
    refine lv_astore_n (lv' := [(2, .ref (ad 18 w)), (0, .ref (ad 0 0)), (1, .int (nI w))]) hx hb dX6_firstOf_5 rfl hl (by decide) rfl (fun ls hl => ?_)
    refine lv_aload_n hx hb dX6_firstOf_6 rfl (lv_at hl 1 rfl) ?_
    refine lv_aload_n hx hb dX6_firstOf_7 rfl (lv_at hl 0 rfl) ?_
    refine xc_ro (n := 1) (K := 0) (i := 0) (As := [.ref (ad 18 w)]) (rest := []) (v := [.int (f_inPlan σ (nI w))]) ⟨hx, hb, hml, hown, hts⟩ hK hX (show 0 < 1 from Nat.zero_lt_one) rfl rfl (qX6_plannedLots la g ad σ u τ hI lo hA w hw) gX6_firstOf_X6_plannedLots rfl rfl rfl (by decide +kernel) ⟨Nat.le_of_ble_eq_true rfl, Nat.le_of_ble_eq_true rfl⟩ rfl hl.1 rfl (Nat.le_of_ble_eq_true rfl) dX6_firstOf_8 ⟨Nat.le_of_ble_eq_true rfl, Nat.le_of_ble_eq_true rfl⟩ rfl ?_
    refine lv_if_ne (tgt := 22) hx hb dX6_firstOf_11 (by decide) (fun c_2 => ?_) (fun c_2 => ?_)
    · have h0 : 0 < nP σ (nI w) := Nat.pos_of_ne_zero (fun q => c_2 (by rw [(nP_cnt hI _).2, q]; rfl))
      refine lv_aload_n hx hb dX6_firstOf_22 rfl (lv_at hl 1 rfl) ?_
      refine lv_aload_n hx hb dX6_firstOf_23 rfl (lv_at hl 0 rfl) ?_
      have kv : vp_in (nI w) (nV σ) := vin_nI hw (by omega)
      refine xc_mup (n := 1) (K := 0) (i := 0) (As := [.ref (ad 18 w)]) (rest := []) (v := []) ⟨hx, hb, hml, hown, hts⟩ hK (XS.start (lo := lo) hX) Nat.zero_lt_one rfl rfl (qX6_fillPlan la g lo ad σ u τ hA hI w hw) gX6_firstOf_X6_fillPlan rfl rfl rfl (by decide +kernel) ⟨Nat.le_of_ble_eq_true rfl, Nat.le_of_ble_eq_true rfl⟩ rfl hl.1 rfl (Nat.le_of_ble_eq_true rfl) dX6_firstOf_24 ⟨Nat.le_of_ble_eq_true rfl, Nat.le_of_ble_eq_true rfl⟩ rfl (fun H locs hq1 hq2 hq3 hq4 => ?_)
      obtain ⟨t9, hX, hF⟩ := hq1
      have hPL := FIL_PL hI kv hF
      refine lv_aload_n hx hb dX6_firstOf_27 rfl (lv_at hl 1 rfl) ?_
      refine x_get (K := 0) (i := 0) (v := .ref (ad 7 0)) hx hb hts hinX6 hown hK hX (show 0 < 1 from Nat.zero_lt_one) 6 rfl rfl (by decide) rfl lk44 rfl dX6_firstOf_28 ?_
      refine xn_ro (n := 0) (K := 7) (i := 0) (As := []) (rest := []) (v := [.int (t9 0 (bsL (costP (ltP σ (nI w)) (cuP σ (nI w)) (hrP σ (nI w)) (t9 5 0) (t9 6 0)) (ords (nP σ (nI w)) (nP σ (nI w)) 0)).2)]) ⟨hx, hb, hml, hown, hts⟩ hN hX Nat.zero_lt_one rfl rfl (qX2_firstOfBestOrder la g ad σ u t9 (nP σ (nI w)) (ltP σ (nI w)) (cuP σ (nI w)) (hrP σ (nI w)) hPL h0) gX6_firstOf_X2_firstOfBestOrder rfl rfl rfl (by decide +kernel) ⟨Nat.le_of_ble_eq_true rfl, Nat.le_of_ble_eq_true rfl⟩ rfl hl.1 rfl (Nat.le_of_ble_eq_true rfl) dX6_firstOf_31 ⟨Nat.le_of_ble_eq_true rfl, Nat.le_of_ble_eq_true rfl⟩ rfl ?_
      refine vx_ret ?_
      refine W.widen (k := 2) (n := 12) (Nat.le_of_ble_eq_true rfl) (Nat.le_of_ble_eq_true rfl) ?_
      exact W.iret (v := (t9 0 (bsL (costP (ltP σ (nI w)) (cuP σ (nI w)) (hrP σ (nI w)) (t9 5 0) (t9 6 0)) (ords (nP σ (nI w)) (nP σ (nI w)) 0)).2)) hx hb hr (fun t ht9 hW => ⟨(show (exOf 1 3 0 (t_firstOf σ (nI w))) = 0 from by rw [show (t_firstOf σ (nI w)) = 0 from (by simp only [tD, tL, tV, tO, tW, tLV, tN, t_setDye, t_supply, t_plan, t_unplan, t_dye, okW, t_firstOf, etw]; (repeat' split) <;> first | rfl | contradiction | (exfalso; simp_all [-Int32.not_lt, -Int32.not_le]; done))]; rfl), congrArg (fun z => Outcome.returned (some (Value.int z))) (cls_fo hI kv hF h0), by rw [ht9]; exact ⟨t9, hX⟩, by rw [ht9]; exact Nat.le_of_eq hq2.symm, fun q _ hq => by rw [ht9]; exact hq3 q hq⟩) hq4 dX6_firstOf_34
    · exact x_throw (k9 := 3) (ic := 58) hx hb hst hown hE ht hlocks (hl.1.trans hml.symm) (fun _ _ _ => trivial) (by decide) tk3 ti3 tw3 bad3 good3 (by decide) (show (exOf 1 3 0 (t_firstOf σ (nI w))) = 3 from by rw [show (t_firstOf σ (nI w)) = 2 from (by simp only [tD, tL, tV, tO, tW, tLV, tN, t_setDye, t_supply, t_plan, t_unplan, t_dye, okW, t_firstOf, etw]; (repeat' split) <;> first | rfl | contradiction | (exfalso; simp_all [-Int32.not_lt, -Int32.not_le]; done))]; rfl) dX6_firstOf_14 dX6_firstOf_17 dX6_firstOf_18 dX6_firstOf_21 (Nat.le_of_ble_eq_true rfl) (Nat.le_of_ble_eq_true rfl) (Nat.le_of_ble_eq_true rfl) (Nat.le_of_ble_eq_true rfl) (Nat.le_of_ble_eq_true rfl) (Nat.le_of_ble_eq_true rfl)
  · refine lv_aload_n hx hb dX6_firstOf_0 rfl (lv_at hl 0 rfl) ?_
    refine lv_iload_n hx hb dX6_firstOf_1 rfl (lv_at hl 1 rfl) ?_
    refine xc_v (n := 1) (As := [.int v]) (rest := []) (v := [.ref (ad 18 (ti v))]) ⟨hx, hb, hml, hown, hts⟩ hE hX ht hlocks (fun _ => ((show (exOf 1 3 0 (t_firstOf σ v)) = 1 from by rw [show (t_firstOf σ v) = 1 from (by simp only [tD, tL, tV, tO, tW, tLV, tN, t_setDye, t_supply, t_plan, t_unplan, t_dye, okW, t_firstOf]; (repeat' split) <;> first | rfl | contradiction | (exfalso; simp_all [-Int32.not_lt, -Int32.not_le]; done))]; rfl)).trans (show eV σ v = 1 from if_neg kv9).symm) (qX6_vatNumbered la hst g lo ad σ u τ hI v) gX6_firstOf_X6_vatNumbered rfl rfl rfl (by decide +kernel) ⟨Nat.le_of_ble_eq_true rfl, Nat.le_of_ble_eq_true rfl⟩ rfl hl.1 rfl (Nat.le_of_ble_eq_true rfl) dX6_firstOf_2 ⟨Nat.le_of_ble_eq_true rfl, Nat.le_of_ble_eq_true rfl⟩ ⟨Nat.le_of_ble_eq_true rfl, Nat.le_of_ble_eq_true rfl⟩ (fun _ => rfl) (fun h_4 => ?_)
    exact absurd h_4 (by rw [show eV σ v = 1 from if_neg kv9]; decide)
