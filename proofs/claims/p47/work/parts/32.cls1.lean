set_option maxHeartbeats 4000000 in
set_option maxRecDepth 100000 in
theorem qX4_distanceTo (la : Launch) (g : EG) (ad : Nat → Nat → Nat) (σ : Sg) (u : Nat → Int64) (τ : Sg) (K1 i1 K2 i2 : Nat) (a0 a1 a2 b0 b1 b2 : Int32) (l1 : i1 < xcnt σ K1) (l2 : i2 < xcnt σ K2) (e1 : ∀ cy, xcont cy ad σ u τ K1 i1 = .inr (6, [.int a0, .int a1, .int a2])) (e2 : ∀ cy, xcont cy ad σ u τ K2 i2 = .inr (6, [.int b0, .int b1, .int b2])) (ra0 : vp_in a0 21) (ra1 : vp_in a1 21) (ra2 : vp_in a2 21) (rb0 : vp_in b0 21) (rb1 : vp_in b1 21) (rb2 : vp_in b2 21) : Met la yX4_distanceTo wsX4_distanceTo ({ frames := 1, cells := 0, slots := 0, locals := 30 } : Room) (va_Pc [.ref (ad K1 i1), .ref (ad K2 i2)] (fun U => XR g ad σ u τ U.heap ∧ KK g U)) (QR (.returned (some (.int (f_gap a0 b0 + f_gap a1 b1 + f_gap a2 b2))))) 0 0 (fun _ => False) := by
  refine Met.ofW (cc := cX4_distanceTo) (maxL := 2) (ret := (some .int)) (by decide) rfl ?_
  intro p e s m args below meth c s₁ B hml hv
  obtain ⟨rfl, hX, hK⟩ := hv
  have hx := B.exec
  have hb := B.bytes
  have hr := B.returns
  have hts := atoms_spec (ws := wsX4_distanceTo) B.pre
  have hown : s.vm.findClass RX4 = some m.cls := findClass_of_methodNamed B.named
  have hlocks := B.notSynchronized
  have hinX4 : ∀ w ∈ wsX40, w ∈ wsX4_distanceTo := by decide +kernel
  have lk13 := hts (.fieldLink RX4 13 "DyehouseLedger$Shade" "red" "I") (by decide +kernel)
  have lk16 := hts (.fieldLink RX4 16 "DyehouseLedger$Shade" "blue" "I") (by decide +kernel)
  have lk7 := hts (.fieldLink RX4 7 "DyehouseLedger$Shade" "light" "I") (by decide +kernel)
  have mcabs := hts (.code Lib.Math.abs.name Lib.Math.abs.code 1 (some .int)) (by decide +kernel)
  have miabs := hts (.initialized "java/lang/Math") (by decide +kernel)
  have ml19 := hts (.methodLink RX4 19 Lib.Math.abs.name) (by decide +kernel)
  have msabs := hts (.static Lib.Math.abs.name) (by decide +kernel)
  have hl := lv_entry ([.ref (ad K1 i1), .ref (ad K2 i2)]) (n := 2) (Nat.le_of_ble_eq_true rfl)
  rw [lg_entry_eq]
  generalize (lg_sl ([.ref (ad K1 i1), .ref (ad K2 i2)]) ++ List.replicate (2 - (lg_sl ([.ref (ad K1 i1), .ref (ad K2 i2)])).length) Slot.unset).toArray = ls at hl ⊢
  have hl : lv_has ls 2 [(0, .ref (ad K1 i1)), (1, .ref (ad K2 i2))] := hl
  refine lv_aload_n hx hb dX4_distanceTo_0 rfl (lv_at hl 0 rfl) ?_
  refine x_get (K := K1) (i := i1) (v := .int a0) hx hb hts hinX4 hown hK hX l1 0 (e1 _) rfl (by decide) rfl lk7 rfl dX4_distanceTo_1 ?_
  refine lv_aload_n hx hb dX4_distanceTo_4 rfl (lv_at hl 1 rfl) ?_
  refine x_get (K := K2) (i := i2) (v := .int b0) hx hb hts hinX4 hown hK hX l2 0 (e2 _) rfl (by decide) rfl lk7 rfl dX4_distanceTo_5 ?_
  refine lv_isub hx hb dX4_distanceTo_8 ?_
  refine va_mabs hx hb (hml.trans hl.1.symm) hown ml19 msabs miabs mcabs (Nat.le_of_ble_eq_true rfl) (Nat.le_of_ble_eq_true rfl) (Nat.zero_le _) (Nat.zero_le _) dX4_distanceTo_9 ?_
  refine lv_aload_n hx hb dX4_distanceTo_12 rfl (lv_at hl 0 rfl) ?_
  refine x_get (K := K1) (i := i1) (v := .int a1) hx hb hts hinX4 hown hK hX l1 1 (e1 _) rfl (by decide) rfl lk13 rfl dX4_distanceTo_13 ?_
  refine lv_aload_n hx hb dX4_distanceTo_16 rfl (lv_at hl 1 rfl) ?_
  refine x_get (K := K2) (i := i2) (v := .int b1) hx hb hts hinX4 hown hK hX l2 1 (e2 _) rfl (by decide) rfl lk13 rfl dX4_distanceTo_17 ?_
  refine lv_isub hx hb dX4_distanceTo_20 ?_
  refine va_mabs hx hb (hml.trans hl.1.symm) hown ml19 msabs miabs mcabs (Nat.le_of_ble_eq_true rfl) (Nat.le_of_ble_eq_true rfl) (Nat.zero_le _) (Nat.zero_le _) dX4_distanceTo_21 ?_
  refine lv_iadd hx hb dX4_distanceTo_24 ?_
  refine lv_aload_n hx hb dX4_distanceTo_25 rfl (lv_at hl 0 rfl) ?_
  refine x_get (K := K1) (i := i1) (v := .int a2) hx hb hts hinX4 hown hK hX l1 2 (e1 _) rfl (by decide) rfl lk16 rfl dX4_distanceTo_26 ?_
  refine lv_aload_n hx hb dX4_distanceTo_29 rfl (lv_at hl 1 rfl) ?_
  refine x_get (K := K2) (i := i2) (v := .int b2) hx hb hts hinX4 hown hK hX l2 2 (e2 _) rfl (by decide) rfl lk16 rfl dX4_distanceTo_30 ?_
  refine lv_isub hx hb dX4_distanceTo_33 ?_
  refine va_mabs hx hb (hml.trans hl.1.symm) hown ml19 msabs miabs mcabs (Nat.le_of_ble_eq_true rfl) (Nat.le_of_ble_eq_true rfl) (Nat.zero_le _) (Nat.zero_le _) dX4_distanceTo_34 ?_
  refine lv_iadd hx hb dX4_distanceTo_37 ?_
  exact W.iret (v := (((if 0 ≤ (a0 - b0) then (a0 - b0) else 0 - (a0 - b0)) + (if 0 ≤ (a1 - b1) then (a1 - b1) else 0 - (a1 - b1))) + (if 0 ≤ (a2 - b2) then (a2 - b2) else 0 - (a2 - b2)))) hx hb hr (fun t ht9 hW => ⟨congrArg (fun z => Outcome.returned (some (Value.int z))) (by rw [abs_gap ra0 rb0, abs_gap ra1 rb1, abs_gap ra2 rb2]), ht9⟩) (fun _ h => nomatch h) dX4_distanceTo_38
set_option maxHeartbeats 4000000 in
set_option maxRecDepth 100000 in
theorem qX0_dyeingHours (la : Launch) (g : EG) (ad : Nat → Nat → Nat) (σ : Sg) (u : Nat → Int64) (τ : Sg) (hI : INV σ) (i : Nat) (hi : i < nL σ) : Met la yX0_dyeingHours wsX0_dyeingHours ({ frames := 0, cells := 0, slots := 0, locals := 0 } : Room) (va_Pc [.ref (ad 16 i)] (fun U => XR g ad σ u τ U.heap ∧ KK g U)) (QR (.returned (some (.int (f_hours σ (nI i)))))) 0 0 (fun _ => False) := by
  refine Met.ofW (cc := cX0_dyeingHours) (maxL := 1) (ret := (some .int)) (by decide) rfl ?_
  intro p e s m args below meth c s₁ B hml hv
  obtain ⟨rfl, hX, hK⟩ := hv
  have hx := B.exec
  have hb := B.bytes
  have hr := B.returns
  have hts := atoms_spec (ws := wsX0_dyeingHours) B.pre
  have hown : s.vm.findClass RX0 = some m.cls := findClass_of_methodNamed B.named
  have hlocks := B.notSynchronized
  have hinX0 : ∀ w ∈ wsX00, w ∈ wsX0_dyeingHours := by decide +kernel
  have lk19 := hts (.fieldLink RX0 19 "DyehouseLedger$Lot" "weight" "I") (by decide +kernel)
  have hl := lv_entry ([.ref (ad 16 i)]) (n := 1) (Nat.le_of_ble_eq_true rfl)
  rw [lg_entry_eq]
  generalize (lg_sl ([.ref (ad 16 i)]) ++ List.replicate (1 - (lg_sl ([.ref (ad 16 i)])).length) Slot.unset).toArray = ls at hl ⊢
  have hl : lv_has ls 1 [(0, .ref (ad 16 i))] := hl
  refine lv_iconst (v := 4) hx hb dX0_dyeingHours_0 (by decide) ?_
  refine lv_aload_n hx hb dX0_dyeingHours_1 rfl (lv_at hl 0 rfl) ?_
  refine x_get (K := 16) (i := i) (v := .int (σ 15 i)) hx hb hts hinX0 hown hK hX hi 2 rfl rfl (by decide) rfl lk19 rfl dX0_dyeingHours_2 ?_
  refine lv_bipush (v := 49) hx hb dX0_dyeingHours_5 (by decide) ?_
  refine lv_iadd hx hb dX0_dyeingHours_7 ?_
  refine lv_bipush (v := 50) hx hb dX0_dyeingHours_8 (by decide) ?_
  refine lv_idiv hx hb dX0_dyeingHours_10 (by decide) ?_
  refine lv_iadd hx hb dX0_dyeingHours_11 ?_
  exact W.iret (v := (4 + (((σ 15 i) + 49) / 50))) hx hb hr (fun t ht9 hW => ⟨congrArg (fun z => Outcome.returned (some (Value.int z))) (hoursNI hI hi).symm, ht9⟩) (fun _ h => nomatch h) dX0_dyeingHours_12
set_option maxHeartbeats 4000000 in
set_option maxRecDepth 100000 in
theorem qX0_gramsNeeded (la : Launch) (g : EG) (ad : Nat → Nat → Nat) (σ : Sg) (u : Nat → Int64) (τ : Sg) (hI : INV σ) (i : Nat) (hi : i < nL σ) (d : Int32) (kd : vp_in d 3) : Met la yX0_gramsNeeded wsX0_gramsNeeded ({ frames := 0, cells := 0, slots := 0, locals := 0 } : Room) (va_Pc [.ref (ad 16 i), .int d] (fun U => XR g ad σ u τ U.heap ∧ KK g U)) (QR (.returned (some (.int (f_needed σ (nI i) d))))) 0 0 (fun _ => False) := by
  refine Met.ofW (cc := cX0_gramsNeeded) (maxL := 2) (ret := (some .int)) (by decide) rfl ?_
  intro p e s m args below meth c s₁ B hml hv
  obtain ⟨rfl, hX, hK⟩ := hv
  have hx := B.exec
  have hb := B.bytes
  have hr := B.returns
  have hts := atoms_spec (ws := wsX0_gramsNeeded) B.pre
  have hown : s.vm.findClass RX0 = some m.cls := findClass_of_methodNamed B.named
  have hlocks := B.notSynchronized
  have hinX0 : ∀ w ∈ wsX00, w ∈ wsX0_gramsNeeded := by decide +kernel
  have hinX1 : ∀ w ∈ wsX10, w ∈ wsX0_gramsNeeded := by decide +kernel
  have hinX3 : ∀ w ∈ wsX30, w ∈ wsX0_gramsNeeded := by decide +kernel
  have lk15 := hts (.fieldLink RX0 15 "DyehouseLedger$Lot" "order" "LDyehouseLedger$Order;") (by decide +kernel)
  have lk19 := hts (.fieldLink RX0 19 "DyehouseLedger$Lot" "weight" "I") (by decide +kernel)
  have lk35 := hts (.fieldLink RX0 35 "DyehouseLedger$Order" "recipe" "LDyehouseLedger$Recipe;") (by decide +kernel)
  have lk41 := hts (.fieldLink RX0 41 "DyehouseLedger$Recipe" "grams" "[I") (by decide +kernel)
  have hl := lv_entry ([.ref (ad 16 i), .int d]) (n := 2) (Nat.le_of_ble_eq_true rfl)
  rw [lg_entry_eq]
  generalize (lg_sl ([.ref (ad 16 i), .int d]) ++ List.replicate (2 - (lg_sl ([.ref (ad 16 i), .int d])).length) Slot.unset).toArray = ls at hl ⊢
  have hl : lv_has ls 2 [(0, .ref (ad 16 i)), (1, .int d)] := hl
  refine lv_aload_n hx hb dX0_gramsNeeded_0 rfl (lv_at hl 0 rfl) ?_
  refine x_get (K := 16) (i := i) (v := .ref (ad 15 (ti (σ 14 i)))) hx hb hts hinX0 hown hK hX hi 1 rfl rfl (by decide) rfl lk15 rfl dX0_gramsNeeded_1 ?_
  refine x_get (K := 15) (i := (ti (σ 14 i))) (v := .ref (ad 12 (ti (σ 10 (ti (σ 14 i)))))) hx hb hts hinX1 hown hK hX (vin_lt (hI.2.2.1 _ hi)) 1 rfl rfl (by decide) rfl lk35 rfl dX0_gramsNeeded_4 ?_
  refine x_get (K := 12) (i := (ti (σ 10 (ti (σ 14 i))))) (v := .ref (ad 14 (ti (σ 10 (ti (σ 14 i)))))) hx hb hts hinX3 hown hK hX (vin_lt (hI.2.1 _ (vin_lt (hI.2.2.1 _ hi)))) 1 rfl rfl (by decide) rfl lk41 rfl dX0_gramsNeeded_7 ?_
  refine lv_iload_n hx hb dX0_gramsNeeded_10 rfl (lv_at hl 1 rfl) ?_
  refine x_iald (K := 14) (i := (ti (σ 10 (ti (σ 14 i))))) (n := 3) (f := (fun d => σ 6 (3 * (ti (σ 10 (ti (σ 14 i)))) + d))) (j := d) (x := (σ 6 (3 * (ti (σ 10 (ti (σ 14 i)))) + (ti d)))) hx hb hK hX (vin_lt (hI.2.1 _ (vin_lt (hI.2.2.1 _ hi)))) rfl (by assumption) rfl dX0_gramsNeeded_11 ?_
  refine lv_aload_n hx hb dX0_gramsNeeded_12 rfl (lv_at hl 0 rfl) ?_
  refine x_get (K := 16) (i := i) (v := .int (σ 15 i)) hx hb hts hinX0 hown hK hX hi 2 rfl rfl (by decide) rfl lk19 rfl dX0_gramsNeeded_13 ?_
  refine lv_imul hx hb dX0_gramsNeeded_16 ?_
  refine lv_bipush (v := 99) hx hb dX0_gramsNeeded_17 (by decide) ?_
  refine lv_iadd hx hb dX0_gramsNeeded_19 ?_
  refine lv_bipush (v := 100) hx hb dX0_gramsNeeded_20 (by decide) ?_
  refine lv_idiv hx hb dX0_gramsNeeded_22 (by decide) ?_
  exact W.iret (v := ((((σ 6 (3 * (ti (σ 10 (ti (σ 14 i)))) + (ti d))) * (σ 15 i)) + 99) / 100)) hx hb hr (fun t ht9 hW => ⟨congrArg (fun z => Outcome.returned (some (Value.int z))) (needNI hI hi kd).symm, ht9⟩) (fun _ h => nomatch h) dX0_gramsNeeded_23
set_option maxHeartbeats 4000000 in
set_option maxRecDepth 100000 in
theorem qX0_distanceFromRecipe (la : Launch) (g : EG) (ad : Nat → Nat → Nat) (σ : Sg) (u : Nat → Int64) (τ : Sg) (hI : INV σ) (i : Nat) (hi : i < nL σ) : Met la yX0_distanceFromRecipe wsX0_distanceFromRecipe ({ frames := 2, cells := 0, slots := 0, locals := 51 } : Room) (va_Pc [.ref (ad 16 i)] (fun U => XR g ad σ u τ U.heap ∧ KK g U)) (QR (.returned (some (.int (f_off σ (nI i)))))) 0 0 (fun _ => False) := by
  refine Met.ofW (cc := cX0_distanceFromRecipe) (maxL := 1) (ret := (some .int)) (by decide) rfl ?_
  intro p e s m args below meth c s₁ B hml hv
  obtain ⟨rfl, hX, hK⟩ := hv
  have hx := B.exec
  have hb := B.bytes
  have hr := B.returns
  have hts := atoms_spec (ws := wsX0_distanceFromRecipe) B.pre
  have hown : s.vm.findClass RX0 = some m.cls := findClass_of_methodNamed B.named
  have hlocks := B.notSynchronized
  have hinX0 : ∀ w ∈ wsX00, w ∈ wsX0_distanceFromRecipe := by decide +kernel
  have hinX1 : ∀ w ∈ wsX10, w ∈ wsX0_distanceFromRecipe := by decide +kernel
  have hinX3 : ∀ w ∈ wsX30, w ∈ wsX0_distanceFromRecipe := by decide +kernel
  have lk15 := hts (.fieldLink RX0 15 "DyehouseLedger$Lot" "order" "LDyehouseLedger$Order;") (by decide +kernel)
  have lk27 := hts (.fieldLink RX0 27 "DyehouseLedger$Lot" "shade" "LDyehouseLedger$Shade;") (by decide +kernel)
  have lk35 := hts (.fieldLink RX0 35 "DyehouseLedger$Order" "recipe" "LDyehouseLedger$Recipe;") (by decide +kernel)
  have lk47 := hts (.fieldLink RX0 47 "DyehouseLedger$Recipe" "shade" "LDyehouseLedger$Shade;") (by decide +kernel)
  have hl := lv_entry ([.ref (ad 16 i)]) (n := 1) (Nat.le_of_ble_eq_true rfl)
  rw [lg_entry_eq]
  generalize (lg_sl ([.ref (ad 16 i)]) ++ List.replicate (1 - (lg_sl ([.ref (ad 16 i)])).length) Slot.unset).toArray = ls at hl ⊢
  have hl : lv_has ls 1 [(0, .ref (ad 16 i))] := hl
  refine lv_aload_n hx hb dX0_distanceFromRecipe_0 rfl (lv_at hl 0 rfl) ?_
  refine x_get (K := 16) (i := i) (v := .ref (ad 17 i)) hx hb hts hinX0 hown hK hX hi 3 rfl rfl (by decide) rfl lk27 rfl dX0_distanceFromRecipe_1 ?_
  refine lv_aload_n hx hb dX0_distanceFromRecipe_4 rfl (lv_at hl 0 rfl) ?_
  refine x_get (K := 16) (i := i) (v := .ref (ad 15 (ti (σ 14 i)))) hx hb hts hinX0 hown hK hX hi 1 rfl rfl (by decide) rfl lk15 rfl dX0_distanceFromRecipe_5 ?_
  refine x_get (K := 15) (i := (ti (σ 14 i))) (v := .ref (ad 12 (ti (σ 10 (ti (σ 14 i)))))) hx hb hts hinX1 hown hK hX (vin_lt (hI.2.2.1 _ hi)) 1 rfl rfl (by decide) rfl lk35 rfl dX0_distanceFromRecipe_8 ?_
  refine x_get (K := 12) (i := (ti (σ 10 (ti (σ 14 i))))) (v := .ref (ad 13 (ti (σ 10 (ti (σ 14 i)))))) hx hb hts hinX3 hown hK hX (vin_lt (hI.2.1 _ (vin_lt (hI.2.2.1 _ hi)))) 0 rfl rfl (by decide) rfl lk47 rfl dX0_distanceFromRecipe_11 ?_
  refine xc_ro (n := 1) (K := 17) (i := i) (As := [.ref (ad 13 (ti (σ 10 (ti (σ 14 i)))))]) (rest := []) (v := [.int (f_off σ (nI i))]) ⟨hx, hb, hml, hown, hts⟩ hK hX hi rfl rfl (qX4_distanceTo la g ad σ u τ 17 i 13 (ti (σ 10 (ti (σ 14 i)))) (σ 16 (3 * i)) (σ 16 (3 * i + 1)) (σ 16 (3 * i + 2)) (σ 5 (3 * (ti (σ 10 (ti (σ 14 i)))))) (σ 5 (3 * (ti (σ 10 (ti (σ 14 i)))) + 1)) (σ 5 (3 * (ti (σ 10 (ti (σ 14 i)))) + 2)) hi (vin_lt (hI.2.1 _ (vin_lt (hI.2.2.1 _ hi)))) (fun _ => rfl) (fun _ => rfl) (hI.2.2.2.2.2.2.2.2.2.2.1 _) (hI.2.2.2.2.2.2.2.2.2.2.1 _) (hI.2.2.2.2.2.2.2.2.2.2.1 _) (hI.2.2.2.2.2.2.2.2.2.1 _) (hI.2.2.2.2.2.2.2.2.2.1 _) (hI.2.2.2.2.2.2.2.2.2.1 _)) gX0_distanceFromRecipe_X4_distanceTo rfl rfl rfl (by decide +kernel) ⟨Nat.le_of_ble_eq_true rfl, Nat.le_of_ble_eq_true rfl⟩ rfl hl.1 rfl (Nat.le_of_ble_eq_true rfl) dX0_distanceFromRecipe_14 ⟨Nat.zero_le _, Nat.zero_le _⟩ (congrArg (fun z => [Value.int z]) (offNI hI hi).symm) ?_
  exact W.iret (v := (f_off σ (nI i))) hx hb hr (fun t ht9 hW => ⟨congrArg (fun z => Outcome.returned (some (Value.int z))) (by first | rfl | (simp [-Int32.not_lt, -Int32.not_le, okL, okV, okO, okR, okD, isP, shP]; done) | (simp_all [-Int32.not_lt, -Int32.not_le, okL, okV, okO, okR, okD, isP, shP]; done)), ht9⟩) (fun _ h => nomatch h) dX0_distanceFromRecipe_17
set_option maxHeartbeats 4000000 in
set_option maxRecDepth 100000 in
theorem qX0_isPassedOf (la : Launch) (g : EG) (ad : Nat → Nat → Nat) (σ : Sg) (u : Nat → Int64) (τ : Sg) (hI : INV σ) (lo : Nat) (hA : XA lo ad σ) (i : Nat) (hi : i < nL σ) (o : Nat) (ho : o < nO σ) : Met la yX0_isPassedOf wsX0_isPassedOf ({ frames := 0, cells := 0, slots := 0, locals := 0 } : Room) (va_Pc [.ref (ad 16 i), .ref (ad 15 o)] (fun U => XR g ad σ u τ U.heap ∧ KK g U)) (QR (.returned (some (.int (if σ 14 i = nI o ∧ σ 21 i = 112 then 1 else 0))))) 0 0 (fun _ => False) := by
  refine Met.ofW (cc := cX0_isPassedOf) (maxL := 2) (ret := (some .boolean)) (by decide) rfl ?_
  intro p e s m args below meth c s₁ B hml hv
  obtain ⟨rfl, hX, hK⟩ := hv
  have hx := B.exec
  have hb := B.bytes
  have hr := B.returns
  have hts := atoms_spec (ws := wsX0_isPassedOf) B.pre
  have hown : s.vm.findClass RX0 = some m.cls := findClass_of_methodNamed B.named
  have hlocks := B.notSynchronized
  have hinX0 : ∀ w ∈ wsX00, w ∈ wsX0_isPassedOf := by decide +kernel
  have lk15 := hts (.fieldLink RX0 15 "DyehouseLedger$Lot" "order" "LDyehouseLedger$Order;") (by decide +kernel)
  have lk31 := hts (.fieldLink RX0 31 "DyehouseLedger$Lot" "state" "C") (by decide +kernel)
  have hl := lv_entry ([.ref (ad 16 i), .ref (ad 15 o)]) (n := 2) (Nat.le_of_ble_eq_true rfl)
  rw [lg_entry_eq]
  generalize (lg_sl ([.ref (ad 16 i), .ref (ad 15 o)]) ++ List.replicate (2 - (lg_sl ([.ref (ad 16 i), .ref (ad 15 o)])).length) Slot.unset).toArray = ls at hl ⊢
  have hl : lv_has ls 2 [(0, .ref (ad 16 i)), (1, .ref (ad 15 o))] := hl
  have hbL := hI.l.1
  have hbO := hI.o.1
  have hbV := hI.v.1
  refine lv_aload_n hx hb dX0_isPassedOf_0 rfl (lv_at hl 0 rfl) ?_
  refine x_get (K := 16) (i := i) (v := .ref (ad 15 (ti (σ 14 i)))) hx hb hts hinX0 hown hK hX hi 1 rfl rfl (by decide) rfl lk15 rfl dX0_isPassedOf_1 ?_
  refine lv_aload_n hx hb dX0_isPassedOf_4 rfl (lv_at hl 1 rfl) ?_
  refine x_acmp_ne (tgt := 21) hx hb dX0_isPassedOf_5 (by decide) (fun c_1 => ?_) (fun c_1 => ?_)
  · replace c_1 := fun q => c_1 ((xa_iff hA (K := 15) (vin_lt (hI.2.2.1 _ hi)) ho).mpr q)
    replace c_1 : ¬ (σ 14 i) = nI o := fun q => c_1 ((ti_eq (vin_mono (hI.2.2.1 _ hi) hI.o.1) (by decide)).mpr q)
    refine lv_iconst (v := 0) hx hb dX0_isPassedOf_21 (by decide) ?_
    exact W.zret (v := 0) hx hb hr rfl (fun t ht9 hW => ⟨congrArg (fun z => Outcome.returned (some (Value.int z))) (by first | rfl | (simp [-Int32.not_lt, -Int32.not_le, okL, okV, okO, okR, okD, isP, shP, c_1]; done) | (simp_all [-Int32.not_lt, -Int32.not_le, okL, okV, okO, okR, okD, isP, shP]; done)), ht9⟩) (fun _ h => nomatch h) dX0_isPassedOf_22
  · replace c_1 := (xa_iff hA (K := 15) (vin_lt (hI.2.2.1 _ hi)) ho).mp c_1
    replace c_1 := (ti_eq (vin_mono (hI.2.2.1 _ hi) hI.o.1) (by decide)).mp c_1
    refine lv_aload_n hx hb dX0_isPassedOf_8 rfl (lv_at hl 0 rfl) ?_
    refine x_get (K := 16) (i := i) (v := .int (σ 21 i)) hx hb hts hinX0 hown hK hX hi 4 rfl rfl (by decide) rfl lk31 rfl dX0_isPassedOf_9 ?_
    refine lv_bipush (v := 112) hx hb dX0_isPassedOf_12 (by decide) ?_
    refine lv_icmp_ne (tgt := 21) hx hb dX0_isPassedOf_14 (by decide) (fun c_2 => ?_) (fun c_2 => ?_)
    · refine lv_iconst (v := 0) hx hb dX0_isPassedOf_21 (by decide) ?_
      exact W.zret (v := 0) hx hb hr rfl (fun t ht9 hW => ⟨congrArg (fun z => Outcome.returned (some (Value.int z))) (by first | rfl | (simp [-Int32.not_lt, -Int32.not_le, okL, okV, okO, okR, okD, isP, shP, c_1, c_2]; done) | (simp_all [-Int32.not_lt, -Int32.not_le, okL, okV, okO, okR, okD, isP, shP]; done)), ht9⟩) (fun _ h => nomatch h) dX0_isPassedOf_22
    · refine lv_iconst (v := 1) hx hb dX0_isPassedOf_17 (by decide) ?_
      refine lv_goto (tgt := 22) hx hb dX0_isPassedOf_18 (by decide) ?_
      exact W.zret (v := 1) hx hb hr rfl (fun t ht9 hW => ⟨congrArg (fun z => Outcome.returned (some (Value.int z))) (by first | rfl | (simp [-Int32.not_lt, -Int32.not_le, okL, okV, okO, okR, okD, isP, shP, c_1, c_2]; done) | (simp_all [-Int32.not_lt, -Int32.not_le, okL, okV, okO, okR, okD, isP, shP]; done)), ht9⟩) (fun _ h => nomatch h) dX0_isPassedOf_22
set_option maxHeartbeats 4000000 in
set_option maxRecDepth 100000 in
theorem qX0_comesBeforeByLight (la : Launch) (g : EG) (ad : Nat → Nat → Nat) (σ : Sg) (u : Nat → Int64) (τ : Sg) (hI : INV σ) (i : Nat) (hi : i < nL σ) (j : Nat) (hj : j < nL σ) : Met la yX0_comesBeforeByLight wsX0_comesBeforeByLight ({ frames := 0, cells := 0, slots := 0, locals := 0 } : Room) (va_Pc [.ref (ad 16 i), .ref (ad 16 j)] (fun U => XR g ad σ u τ U.heap ∧ KK g U)) (QR (.returned (some (.int (if b_ahead σ (nI i) (nI j) = true then 1 else 0))))) 0 0 (fun _ => False) := by
  refine Met.ofW (cc := cX0_comesBeforeByLight) (maxL := 2) (ret := (some .boolean)) (by decide) rfl ?_
  intro p e s m args below meth c s₁ B hml hv
  obtain ⟨rfl, hX, hK⟩ := hv
  have hx := B.exec
  have hb := B.bytes
  have hr := B.returns
  have hts := atoms_spec (ws := wsX0_comesBeforeByLight) B.pre
  have hown : s.vm.findClass RX0 = some m.cls := findClass_of_methodNamed B.named
  have hlocks := B.notSynchronized
  have hinX0 : ∀ w ∈ wsX00, w ∈ wsX0_comesBeforeByLight := by decide +kernel
  have hinX4 : ∀ w ∈ wsX40, w ∈ wsX0_comesBeforeByLight := by decide +kernel
  have lk27 := hts (.fieldLink RX0 27 "DyehouseLedger$Lot" "shade" "LDyehouseLedger$Shade;") (by decide +kernel)
  have lk52 := hts (.fieldLink RX0 52 "DyehouseLedger$Shade" "light" "I") (by decide +kernel)
  have lk55 := hts (.fieldLink RX0 55 "DyehouseLedger$Shade" "red" "I") (by decide +kernel)
  have lk58 := hts (.fieldLink RX0 58 "DyehouseLedger$Shade" "blue" "I") (by decide +kernel)
  have lk9 := hts (.fieldLink RX0 9 "DyehouseLedger$Lot" "number" "I") (by decide +kernel)
  have hl := lv_entry ([.ref (ad 16 i), .ref (ad 16 j)]) (n := 2) (Nat.le_of_ble_eq_true rfl)
  rw [lg_entry_eq]
  generalize (lg_sl ([.ref (ad 16 i), .ref (ad 16 j)]) ++ List.replicate (2 - (lg_sl ([.ref (ad 16 i), .ref (ad 16 j)])).length) Slot.unset).toArray = ls at hl ⊢
  have hl : lv_has ls 2 [(0, .ref (ad 16 i)), (1, .ref (ad 16 j))] := hl
  have hbL := hI.l.1
  have hbO := hI.o.1
  have hbV := hI.v.1
  refine lv_aload_n hx hb dX0_comesBeforeByLight_0 rfl (lv_at hl 0 rfl) ?_
  refine x_get (K := 16) (i := i) (v := .ref (ad 17 i)) hx hb hts hinX0 hown hK hX hi 3 rfl rfl (by decide) rfl lk27 rfl dX0_comesBeforeByLight_1 ?_
  refine x_get (K := 17) (i := i) (v := .int (σ 16 (3 * i))) hx hb hts hinX4 hown hK hX hi 0 rfl rfl (by decide) rfl lk52 rfl dX0_comesBeforeByLight_4 ?_
  refine lv_aload_n hx hb dX0_comesBeforeByLight_7 rfl (lv_at hl 1 rfl) ?_
  refine x_get (K := 16) (i := j) (v := .ref (ad 17 j)) hx hb hts hinX0 hown hK hX hj 3 rfl rfl (by decide) rfl lk27 rfl dX0_comesBeforeByLight_8 ?_
  refine x_get (K := 17) (i := j) (v := .int (σ 16 (3 * j))) hx hb hts hinX4 hown hK hX hj 0 rfl rfl (by decide) rfl lk52 rfl dX0_comesBeforeByLight_11 ?_
  refine lv_icmp_eq (tgt := 40) hx hb dX0_comesBeforeByLight_14 (by decide) (fun c_1 => ?_) (fun c_1 => ?_)
  · refine lv_aload_n hx hb dX0_comesBeforeByLight_40 rfl (lv_at hl 0 rfl) ?_
    refine x_get (K := 16) (i := i) (v := .ref (ad 17 i)) hx hb hts hinX0 hown hK hX hi 3 rfl rfl (by decide) rfl lk27 rfl dX0_comesBeforeByLight_41 ?_
    refine x_get (K := 17) (i := i) (v := .int (σ 16 (3 * i + 1))) hx hb hts hinX4 hown hK hX hi 1 rfl rfl (by decide) rfl lk55 rfl dX0_comesBeforeByLight_44 ?_
    refine lv_aload_n hx hb dX0_comesBeforeByLight_47 rfl (lv_at hl 1 rfl) ?_
    refine x_get (K := 16) (i := j) (v := .ref (ad 17 j)) hx hb hts hinX0 hown hK hX hj 3 rfl rfl (by decide) rfl lk27 rfl dX0_comesBeforeByLight_48 ?_
    refine x_get (K := 17) (i := j) (v := .int (σ 16 (3 * j + 1))) hx hb hts hinX4 hown hK hX hj 1 rfl rfl (by decide) rfl lk55 rfl dX0_comesBeforeByLight_51 ?_
    refine lv_icmp_eq (tgt := 80) hx hb dX0_comesBeforeByLight_54 (by decide) (fun c_2 => ?_) (fun c_2 => ?_)
    · refine lv_aload_n hx hb dX0_comesBeforeByLight_80 rfl (lv_at hl 0 rfl) ?_
      refine x_get (K := 16) (i := i) (v := .ref (ad 17 i)) hx hb hts hinX0 hown hK hX hi 3 rfl rfl (by decide) rfl lk27 rfl dX0_comesBeforeByLight_81 ?_
      refine x_get (K := 17) (i := i) (v := .int (σ 16 (3 * i + 2))) hx hb hts hinX4 hown hK hX hi 2 rfl rfl (by decide) rfl lk58 rfl dX0_comesBeforeByLight_84 ?_
      refine lv_aload_n hx hb dX0_comesBeforeByLight_87 rfl (lv_at hl 1 rfl) ?_
      refine x_get (K := 16) (i := j) (v := .ref (ad 17 j)) hx hb hts hinX0 hown hK hX hj 3 rfl rfl (by decide) rfl lk27 rfl dX0_comesBeforeByLight_88 ?_
      refine x_get (K := 17) (i := j) (v := .int (σ 16 (3 * j + 2))) hx hb hts hinX4 hown hK hX hj 2 rfl rfl (by decide) rfl lk58 rfl dX0_comesBeforeByLight_91 ?_
      refine lv_icmp_eq (tgt := 120) hx hb dX0_comesBeforeByLight_94 (by decide) (fun c_3 => ?_) (fun c_3 => ?_)
      · refine lv_aload_n hx hb dX0_comesBeforeByLight_120 rfl (lv_at hl 0 rfl) ?_
        refine x_get (K := 16) (i := i) (v := .int (nI i)) hx hb hts hinX0 hown hK hX hi 0 rfl rfl (by decide) rfl lk9 rfl dX0_comesBeforeByLight_121 ?_
        refine lv_aload_n hx hb dX0_comesBeforeByLight_124 rfl (lv_at hl 1 rfl) ?_
        refine x_get (K := 16) (i := j) (v := .int (nI j)) hx hb hts hinX0 hown hK hX hj 0 rfl rfl (by decide) rfl lk9 rfl dX0_comesBeforeByLight_125 ?_
        refine lv_icmp_ge (tgt := 135) hx hb dX0_comesBeforeByLight_128 (by decide) (fun c_4 => ?_) (fun c_4 => ?_)
        · replace c_4 := Int32.not_lt.mpr c_4
          refine lv_iconst (v := 0) hx hb dX0_comesBeforeByLight_135 (by decide) ?_
          exact W.zret (v := 0) hx hb hr rfl (fun t ht9 hW => ⟨congrArg (fun z => Outcome.returned (some (Value.int z))) (by rw [aheadNI (by omega) (by omega)]; simp_all [-Int32.not_lt, -Int32.not_le]), ht9⟩) (fun _ h => nomatch h) dX0_comesBeforeByLight_136
        · replace c_4 := Int32.not_le.mp c_4
          refine lv_iconst (v := 1) hx hb dX0_comesBeforeByLight_131 (by decide) ?_
          refine lv_goto (tgt := 136) hx hb dX0_comesBeforeByLight_132 (by decide) ?_
          exact W.zret (v := 1) hx hb hr rfl (fun t ht9 hW => ⟨congrArg (fun z => Outcome.returned (some (Value.int z))) (by rw [aheadNI (by omega) (by omega)]; simp_all [-Int32.not_lt, -Int32.not_le]), ht9⟩) (fun _ h => nomatch h) dX0_comesBeforeByLight_136
      · refine lv_aload_n hx hb dX0_comesBeforeByLight_97 rfl (lv_at hl 0 rfl) ?_
        refine x_get (K := 16) (i := i) (v := .ref (ad 17 i)) hx hb hts hinX0 hown hK hX hi 3 rfl rfl (by decide) rfl lk27 rfl dX0_comesBeforeByLight_98 ?_
        refine x_get (K := 17) (i := i) (v := .int (σ 16 (3 * i + 2))) hx hb hts hinX4 hown hK hX hi 2 rfl rfl (by decide) rfl lk58 rfl dX0_comesBeforeByLight_101 ?_
        refine lv_aload_n hx hb dX0_comesBeforeByLight_104 rfl (lv_at hl 1 rfl) ?_
        refine x_get (K := 16) (i := j) (v := .ref (ad 17 j)) hx hb hts hinX0 hown hK hX hj 3 rfl rfl (by decide) rfl lk27 rfl dX0_comesBeforeByLight_105 ?_
        refine x_get (K := 17) (i := j) (v := .int (σ 16 (3 * j + 2))) hx hb hts hinX4 hown hK hX hj 2 rfl rfl (by decide) rfl lk58 rfl dX0_comesBeforeByLight_108 ?_
        refine lv_icmp_ge (tgt := 118) hx hb dX0_comesBeforeByLight_111 (by decide) (fun c_5 => ?_) (fun c_5 => ?_)
        · replace c_5 := Int32.not_lt.mpr c_5
          refine lv_iconst (v := 0) hx hb dX0_comesBeforeByLight_118 (by decide) ?_
          exact W.zret (v := 0) hx hb hr rfl (fun t ht9 hW => ⟨congrArg (fun z => Outcome.returned (some (Value.int z))) (by rw [aheadNI (by omega) (by omega)]; simp_all [-Int32.not_lt, -Int32.not_le]), ht9⟩) (fun _ h => nomatch h) dX0_comesBeforeByLight_119
        · replace c_5 := Int32.not_le.mp c_5
          refine lv_iconst (v := 1) hx hb dX0_comesBeforeByLight_114 (by decide) ?_
          refine lv_goto (tgt := 119) hx hb dX0_comesBeforeByLight_115 (by decide) ?_
          exact W.zret (v := 1) hx hb hr rfl (fun t ht9 hW => ⟨congrArg (fun z => Outcome.returned (some (Value.int z))) (by rw [aheadNI (by omega) (by omega)]; simp_all [-Int32.not_lt, -Int32.not_le]), ht9⟩) (fun _ h => nomatch h) dX0_comesBeforeByLight_119
    · refine lv_aload_n hx hb dX0_comesBeforeByLight_57 rfl (lv_at hl 0 rfl) ?_
      refine x_get (K := 16) (i := i) (v := .ref (ad 17 i)) hx hb hts hinX0 hown hK hX hi 3 rfl rfl (by decide) rfl lk27 rfl dX0_comesBeforeByLight_58 ?_
      refine x_get (K := 17) (i := i) (v := .int (σ 16 (3 * i + 1))) hx hb hts hinX4 hown hK hX hi 1 rfl rfl (by decide) rfl lk55 rfl dX0_comesBeforeByLight_61 ?_
      refine lv_aload_n hx hb dX0_comesBeforeByLight_64 rfl (lv_at hl 1 rfl) ?_
      refine x_get (K := 16) (i := j) (v := .ref (ad 17 j)) hx hb hts hinX0 hown hK hX hj 3 rfl rfl (by decide) rfl lk27 rfl dX0_comesBeforeByLight_65 ?_
      refine x_get (K := 17) (i := j) (v := .int (σ 16 (3 * j + 1))) hx hb hts hinX4 hown hK hX hj 1 rfl rfl (by decide) rfl lk55 rfl dX0_comesBeforeByLight_68 ?_
      refine lv_icmp_ge (tgt := 78) hx hb dX0_comesBeforeByLight_71 (by decide) (fun c_6 => ?_) (fun c_6 => ?_)
      · replace c_6 := Int32.not_lt.mpr c_6
        refine lv_iconst (v := 0) hx hb dX0_comesBeforeByLight_78 (by decide) ?_
        exact W.zret (v := 0) hx hb hr rfl (fun t ht9 hW => ⟨congrArg (fun z => Outcome.returned (some (Value.int z))) (by rw [aheadNI (by omega) (by omega)]; simp_all [-Int32.not_lt, -Int32.not_le]), ht9⟩) (fun _ h => nomatch h) dX0_comesBeforeByLight_79
      · replace c_6 := Int32.not_le.mp c_6
        refine lv_iconst (v := 1) hx hb dX0_comesBeforeByLight_74 (by decide) ?_
        refine lv_goto (tgt := 79) hx hb dX0_comesBeforeByLight_75 (by decide) ?_
        exact W.zret (v := 1) hx hb hr rfl (fun t ht9 hW => ⟨congrArg (fun z => Outcome.returned (some (Value.int z))) (by rw [aheadNI (by omega) (by omega)]; simp_all [-Int32.not_lt, -Int32.not_le]), ht9⟩) (fun _ h => nomatch h) dX0_comesBeforeByLight_79
  · refine lv_aload_n hx hb dX0_comesBeforeByLight_17 rfl (lv_at hl 0 rfl) ?_
    refine x_get (K := 16) (i := i) (v := .ref (ad 17 i)) hx hb hts hinX0 hown hK hX hi 3 rfl rfl (by decide) rfl lk27 rfl dX0_comesBeforeByLight_18 ?_
    refine x_get (K := 17) (i := i) (v := .int (σ 16 (3 * i))) hx hb hts hinX4 hown hK hX hi 0 rfl rfl (by decide) rfl lk52 rfl dX0_comesBeforeByLight_21 ?_
    refine lv_aload_n hx hb dX0_comesBeforeByLight_24 rfl (lv_at hl 1 rfl) ?_
    refine x_get (K := 16) (i := j) (v := .ref (ad 17 j)) hx hb hts hinX0 hown hK hX hj 3 rfl rfl (by decide) rfl lk27 rfl dX0_comesBeforeByLight_25 ?_
    refine x_get (K := 17) (i := j) (v := .int (σ 16 (3 * j))) hx hb hts hinX4 hown hK hX hj 0 rfl rfl (by decide) rfl lk52 rfl dX0_comesBeforeByLight_28 ?_
    refine lv_icmp_le (tgt := 38) hx hb dX0_comesBeforeByLight_31 (by decide) (fun c_7 => ?_) (fun c_7 => ?_)
    · replace c_7 := Int32.not_lt.mpr c_7
      refine lv_iconst (v := 0) hx hb dX0_comesBeforeByLight_38 (by decide) ?_
      exact W.zret (v := 0) hx hb hr rfl (fun t ht9 hW => ⟨congrArg (fun z => Outcome.returned (some (Value.int z))) (by rw [aheadNI (by omega) (by omega)]; simp_all [-Int32.not_lt, -Int32.not_le]), ht9⟩) (fun _ h => nomatch h) dX0_comesBeforeByLight_39
    · replace c_7 := Int32.not_le.mp c_7
      refine lv_iconst (v := 1) hx hb dX0_comesBeforeByLight_34 (by decide) ?_
      refine lv_goto (tgt := 39) hx hb dX0_comesBeforeByLight_35 (by decide) ?_
      exact W.zret (v := 1) hx hb hr rfl (fun t ht9 hW => ⟨congrArg (fun z => Outcome.returned (some (Value.int z))) (by rw [aheadNI (by omega) (by omega)]; simp_all [-Int32.not_lt, -Int32.not_le]), ht9⟩) (fun _ h => nomatch h) dX0_comesBeforeByLight_39
set_option maxHeartbeats 4000000 in
set_option maxRecDepth 100000 in
theorem qX6_isTooDark (la : Launch) (a b : Int32) : Met la yX6_isTooDark wsX6_isTooDark ({ frames := 0, cells := 0, slots := 0, locals := 0 } : Room) (va_Pc [.int a, .int b] (fun _ => True)) (QR (.returned (some (.int (if ¬ a = -1 ∧ a < b then 1 else 0))))) 0 0 (fun _ => False) := by
  refine Met.ofW (cc := cX6_isTooDark) (maxL := 2) (ret := (some .boolean)) (by decide) rfl ?_
  intro p e s m args below meth c s₁ B hml hv
  obtain ⟨rfl, -⟩ := hv
  have hx := B.exec
  have hb := B.bytes
  have hr := B.returns
  have hts := atoms_spec (ws := wsX6_isTooDark) B.pre
  have hown : s.vm.findClass RX6 = some m.cls := findClass_of_methodNamed B.named
  have hlocks := B.notSynchronized
  have hl := lv_entry ([.int a, .int b]) (n := 2) (Nat.le_of_ble_eq_true rfl)
  rw [lg_entry_eq]
  generalize (lg_sl ([.int a, .int b]) ++ List.replicate (2 - (lg_sl ([.int a, .int b])).length) Slot.unset).toArray = ls at hl ⊢
  have hl : lv_has ls 2 [(0, .int a), (1, .int b)] := hl
  refine lv_iload_n hx hb dX6_isTooDark_0 rfl (lv_at hl 0 rfl) ?_
  refine lv_iconst (v := (-1)) hx hb dX6_isTooDark_1 (by decide) ?_
  refine lv_icmp_eq (tgt := 14) hx hb dX6_isTooDark_2 (by decide) (fun c_1 => ?_) (fun c_1 => ?_)
  · refine lv_iconst (v := 0) hx hb dX6_isTooDark_14 (by decide) ?_
    exact W.zret (v := 0) hx hb hr rfl (fun t ht9 hW => ⟨congrArg (fun z => Outcome.returned (some (Value.int z))) (by first | rfl | (simp [-Int32.not_lt, -Int32.not_le, okL, okV, okO, okR, okD, isP, shP, c_1]; done) | (simp_all [-Int32.not_lt, -Int32.not_le, okL, okV, okO, okR, okD, isP, shP]; done)), ht9⟩) (fun _ h => nomatch h) dX6_isTooDark_15
  · refine lv_iload_n hx hb dX6_isTooDark_5 rfl (lv_at hl 0 rfl) ?_
    refine lv_iload_n hx hb dX6_isTooDark_6 rfl (lv_at hl 1 rfl) ?_
    refine lv_icmp_ge (tgt := 14) hx hb dX6_isTooDark_7 (by decide) (fun c_2 => ?_) (fun c_2 => ?_)
    · replace c_2 := Int32.not_lt.mpr c_2
      refine lv_iconst (v := 0) hx hb dX6_isTooDark_14 (by decide) ?_
      exact W.zret (v := 0) hx hb hr rfl (fun t ht9 hW => ⟨congrArg (fun z => Outcome.returned (some (Value.int z))) (by first | rfl | (simp [-Int32.not_lt, -Int32.not_le, okL, okV, okO, okR, okD, isP, shP, c_1, c_2]; done) | (simp_all [-Int32.not_lt, -Int32.not_le, okL, okV, okO, okR, okD, isP, shP]; done)), ht9⟩) (fun _ h => nomatch h) dX6_isTooDark_15
    · replace c_2 := Int32.not_le.mp c_2
      refine lv_iconst (v := 1) hx hb dX6_isTooDark_10 (by decide) ?_
      refine lv_goto (tgt := 15) hx hb dX6_isTooDark_11 (by decide) ?_
      exact W.zret (v := 1) hx hb hr rfl (fun t ht9 hW => ⟨congrArg (fun z => Outcome.returned (some (Value.int z))) (by first | rfl | (simp [-Int32.not_lt, -Int32.not_le, okL, okV, okO, okR, okD, isP, shP, c_1, c_2]; done) | (simp_all [-Int32.not_lt, -Int32.not_le, okL, okV, okO, okR, okD, isP, shP]; done)), ht9⟩) (fun _ h => nomatch h) dX6_isTooDark_15
set_option maxHeartbeats 4000000 in
set_option maxRecDepth 100000 in
theorem qX6_isBarred (la : Launch) (a b : Int32) : Met la yX6_isBarred wsX6_isBarred ({ frames := 0, cells := 0, slots := 0, locals := 0 } : Room) (va_Pc [.int a, .int b] (fun _ => True)) (QR (.returned (some (.int (if ¬ a = -1 ∧ ¬ a = b then 1 else 0))))) 0 0 (fun _ => False) := by
  refine Met.ofW (cc := cX6_isBarred) (maxL := 2) (ret := (some .boolean)) (by decide) rfl ?_
  intro p e s m args below meth c s₁ B hml hv
  obtain ⟨rfl, -⟩ := hv
  have hx := B.exec
  have hb := B.bytes
  have hr := B.returns
  have hts := atoms_spec (ws := wsX6_isBarred) B.pre
  have hown : s.vm.findClass RX6 = some m.cls := findClass_of_methodNamed B.named
  have hlocks := B.notSynchronized
  have hl := lv_entry ([.int a, .int b]) (n := 2) (Nat.le_of_ble_eq_true rfl)
  rw [lg_entry_eq]
  generalize (lg_sl ([.int a, .int b]) ++ List.replicate (2 - (lg_sl ([.int a, .int b])).length) Slot.unset).toArray = ls at hl ⊢
  have hl : lv_has ls 2 [(0, .int a), (1, .int b)] := hl
  refine lv_iload_n hx hb dX6_isBarred_0 rfl (lv_at hl 0 rfl) ?_
  refine lv_iconst (v := (-1)) hx hb dX6_isBarred_1 (by decide) ?_
  refine lv_icmp_eq (tgt := 14) hx hb dX6_isBarred_2 (by decide) (fun c_1 => ?_) (fun c_1 => ?_)
  · refine lv_iconst (v := 0) hx hb dX6_isBarred_14 (by decide) ?_
    exact W.zret (v := 0) hx hb hr rfl (fun t ht9 hW => ⟨congrArg (fun z => Outcome.returned (some (Value.int z))) (by first | rfl | (simp [-Int32.not_lt, -Int32.not_le, okL, okV, okO, okR, okD, isP, shP, c_1]; done) | (simp_all [-Int32.not_lt, -Int32.not_le, okL, okV, okO, okR, okD, isP, shP]; done)), ht9⟩) (fun _ h => nomatch h) dX6_isBarred_15
  · refine lv_iload_n hx hb dX6_isBarred_5 rfl (lv_at hl 0 rfl) ?_
    refine lv_iload_n hx hb dX6_isBarred_6 rfl (lv_at hl 1 rfl) ?_
    refine lv_icmp_eq (tgt := 14) hx hb dX6_isBarred_7 (by decide) (fun c_2 => ?_) (fun c_2 => ?_)
    · refine lv_iconst (v := 0) hx hb dX6_isBarred_14 (by decide) ?_
      exact W.zret (v := 0) hx hb hr rfl (fun t ht9 hW => ⟨congrArg (fun z => Outcome.returned (some (Value.int z))) (by first | rfl | (simp [-Int32.not_lt, -Int32.not_le, okL, okV, okO, okR, okD, isP, shP, c_1, c_2]; done) | (simp_all [-Int32.not_lt, -Int32.not_le, okL, okV, okO, okR, okD, isP, shP]; done)), ht9⟩) (fun _ h => nomatch h) dX6_isBarred_15
    · refine lv_iconst (v := 1) hx hb dX6_isBarred_10 (by decide) ?_
      refine lv_goto (tgt := 15) hx hb dX6_isBarred_11 (by decide) ?_
      exact W.zret (v := 1) hx hb hr rfl (fun t ht9 hW => ⟨congrArg (fun z => Outcome.returned (some (Value.int z))) (by first | rfl | (simp [-Int32.not_lt, -Int32.not_le, okL, okV, okO, okR, okD, isP, shP, c_1, c_2]; done) | (simp_all [-Int32.not_lt, -Int32.not_le, okL, okV, okO, okR, okD, isP, shP]; done)), ht9⟩) (fun _ h => nomatch h) dX6_isBarred_15
set_option maxHeartbeats 4000000 in
set_option maxRecDepth 100000 in
theorem qX6_isStocked (la : Launch) (g : EG) (ad : Nat → Nat → Nat) (σ : Sg) (u : Nat → Int64) (τ : Sg) (hI : INV σ) (i : Nat) (hi : i < nL σ) : Met la yX6_isStocked wsX6_isStocked ({ frames := 1, cells := 0, slots := 0, locals := 21 } : Room) (va_Pc [.ref (ad 0 0), .ref (ad 16 i)] (fun U => XR g ad σ u τ U.heap ∧ KK g U)) (QR (.returned (some (.int (if stk σ i then 1 else 0))))) 0 0 (fun _ => False) := by
  refine Met.ofW (cc := cX6_isStocked) (maxL := 3) (ret := (some .boolean)) (by decide) rfl ?_
  intro p e s m args below meth c s₁ B hml hv
  obtain ⟨rfl, hX, hK⟩ := hv
  have hx := B.exec
  have hb := B.bytes
  have hr := B.returns
  have hts := atoms_spec (ws := wsX6_isStocked) B.pre
  have hown : s.vm.findClass RX6 = some m.cls := findClass_of_methodNamed B.named
  have hlocks := B.notSynchronized
  have hinX6 : ∀ w ∈ wsX60, w ∈ wsX6_isStocked := by decide +kernel
  have lk33 := hts (.fieldLink RX6 33 "DyehouseLedger" "gramsInStock" "[I") (by decide +kernel)
  have hl := lv_entry ([.ref (ad 0 0), .ref (ad 16 i)]) (n := 3) (Nat.le_of_ble_eq_true rfl)
  rw [lg_entry_eq]
  generalize (lg_sl ([.ref (ad 0 0), .ref (ad 16 i)]) ++ List.replicate (3 - (lg_sl ([.ref (ad 0 0), .ref (ad 16 i)])).length) Slot.unset).toArray = ls at hl ⊢
  have hl : lv_has ls 3 [(0, .ref (ad 0 0)), (1, .ref (ad 16 i))] := hl
  refine lv_iconst (v := 0) hx hb dX6_isStocked_0 (by decide) ?_
  refine lv_istore_n (lv' := [(2, .int 0), (0, .ref (ad 0 0)), (1, .ref (ad 16 i))]) hx hb dX6_isStocked_1 rfl hl (by decide) rfl (fun ls hl => ?_)
  refine lv_iload_n hx hb dX6_isStocked_2 rfl (lv_at hl 0 rfl) ?_
  refine lv_iconst (v := 3) hx hb dX6_isStocked_3 (by decide) ?_
  refine lv_icmp_ge (tgt := 29) hx hb dX6_isStocked_4 (by decide) (fun c_1 => ?_) (fun c_1 => ?_)
  · exact absurd c_1 (by decide)
  · replace c_1 := Int32.not_le.mp c_1
    refine lv_aload_n hx hb dX6_isStocked_7 rfl (lv_at hl 1 rfl) ?_
    refine x_get (K := 0) (i := 0) (v := .ref (ad 5 0)) hx hb hts hinX6 hown hK hX (show 0 < 1 from Nat.zero_lt_one) 4 rfl rfl (by decide) rfl lk33 rfl dX6_isStocked_8 ?_
    refine lv_iload_n hx hb dX6_isStocked_11 rfl (lv_at hl 0 rfl) ?_
    refine x_iald (K := 5) (i := 0) (n := 3) (f := (σ 7)) (j := 0) (x := (σ 7 0)) hx hb hK hX (show 0 < 1 from Nat.zero_lt_one) rfl (vin_dec (by decide +kernel)) (congrArg (σ 7) ti_0) dX6_isStocked_12 ?_
    refine lv_aload_n hx hb dX6_isStocked_13 rfl (lv_at hl 2 rfl) ?_
    refine lv_iload_n hx hb dX6_isStocked_14 rfl (lv_at hl 0 rfl) ?_
    refine xc_ro (n := 1) (K := 16) (i := i) (As := [.int 0]) (rest := [.int (σ 7 0)]) (v := [.int (f_needed σ (nI i) 0)]) ⟨hx, hb, hml, hown, hts⟩ hK hX hi rfl rfl (qX0_gramsNeeded la g ad σ u τ hI i hi 0 (vin_dec (by decide +kernel))) gX6_isStocked_X0_gramsNeeded rfl rfl rfl (by decide +kernel) ⟨Nat.le_of_ble_eq_true rfl, Nat.le_of_ble_eq_true rfl⟩ rfl hl.1 rfl (Nat.le_of_ble_eq_true rfl) dX6_isStocked_15 ⟨Nat.zero_le _, Nat.zero_le _⟩ rfl ?_
    refine lv_icmp_ge (tgt := 23) hx hb dX6_isStocked_18 (by decide) (fun c_2 => ?_) (fun c_2 => ?_)
    · replace c_2 := Int32.not_lt.mpr c_2
      refine lv_iinc (v := 1) (lv' := [(2, .int 1), (0, .ref (ad 0 0)), (1, .ref (ad 16 i))]) hx hb dX6_isStocked_23 hl (k := 0) rfl (by decide) (by decide) rfl (fun ls hl => ?_)
      refine lv_goto (tgt := 2) hx hb dX6_isStocked_26 (by decide) ?_
      refine lv_iload_n hx hb dX6_isStocked_2 rfl (lv_at hl 0 rfl) ?_
      refine lv_iconst (v := 3) hx hb dX6_isStocked_3 (by decide) ?_
      refine lv_icmp_ge (tgt := 29) hx hb dX6_isStocked_4 (by decide) (fun c_3 => ?_) (fun c_3 => ?_)
      · exact absurd c_3 (by decide)
      · replace c_3 := Int32.not_le.mp c_3
        refine lv_aload_n hx hb dX6_isStocked_7 rfl (lv_at hl 1 rfl) ?_
        refine x_get (K := 0) (i := 0) (v := .ref (ad 5 0)) hx hb hts hinX6 hown hK hX (show 0 < 1 from Nat.zero_lt_one) 4 rfl rfl (by decide) rfl lk33 rfl dX6_isStocked_8 ?_
        refine lv_iload_n hx hb dX6_isStocked_11 rfl (lv_at hl 0 rfl) ?_
        refine x_iald (K := 5) (i := 0) (n := 3) (f := (σ 7)) (j := 1) (x := (σ 7 1)) hx hb hK hX (show 0 < 1 from Nat.zero_lt_one) rfl (vin_dec (by decide +kernel)) (congrArg (σ 7) ti_1) dX6_isStocked_12 ?_
        refine lv_aload_n hx hb dX6_isStocked_13 rfl (lv_at hl 2 rfl) ?_
        refine lv_iload_n hx hb dX6_isStocked_14 rfl (lv_at hl 0 rfl) ?_
        refine xc_ro (n := 1) (K := 16) (i := i) (As := [.int 1]) (rest := [.int (σ 7 1)]) (v := [.int (f_needed σ (nI i) 1)]) ⟨hx, hb, hml, hown, hts⟩ hK hX hi rfl rfl (qX0_gramsNeeded la g ad σ u τ hI i hi 1 (vin_dec (by decide +kernel))) gX6_isStocked_X0_gramsNeeded rfl rfl rfl (by decide +kernel) ⟨Nat.le_of_ble_eq_true rfl, Nat.le_of_ble_eq_true rfl⟩ rfl hl.1 rfl (Nat.le_of_ble_eq_true rfl) dX6_isStocked_15 ⟨Nat.zero_le _, Nat.zero_le _⟩ rfl ?_
        refine lv_icmp_ge (tgt := 23) hx hb dX6_isStocked_18 (by decide) (fun c_4 => ?_) (fun c_4 => ?_)
        · replace c_4 := Int32.not_lt.mpr c_4
          refine lv_iinc (v := 2) (lv' := [(2, .int 2), (0, .ref (ad 0 0)), (1, .ref (ad 16 i))]) hx hb dX6_isStocked_23 hl (k := 0) rfl (by decide) (by decide) rfl (fun ls hl => ?_)
          refine lv_goto (tgt := 2) hx hb dX6_isStocked_26 (by decide) ?_
          refine lv_iload_n hx hb dX6_isStocked_2 rfl (lv_at hl 0 rfl) ?_
          refine lv_iconst (v := 3) hx hb dX6_isStocked_3 (by decide) ?_
          refine lv_icmp_ge (tgt := 29) hx hb dX6_isStocked_4 (by decide) (fun c_5 => ?_) (fun c_5 => ?_)
          · exact absurd c_5 (by decide)
          · replace c_5 := Int32.not_le.mp c_5
            refine lv_aload_n hx hb dX6_isStocked_7 rfl (lv_at hl 1 rfl) ?_
            refine x_get (K := 0) (i := 0) (v := .ref (ad 5 0)) hx hb hts hinX6 hown hK hX (show 0 < 1 from Nat.zero_lt_one) 4 rfl rfl (by decide) rfl lk33 rfl dX6_isStocked_8 ?_
            refine lv_iload_n hx hb dX6_isStocked_11 rfl (lv_at hl 0 rfl) ?_
            refine x_iald (K := 5) (i := 0) (n := 3) (f := (σ 7)) (j := 2) (x := (σ 7 2)) hx hb hK hX (show 0 < 1 from Nat.zero_lt_one) rfl (vin_dec (by decide +kernel)) (congrArg (σ 7) ti_2) dX6_isStocked_12 ?_
            refine lv_aload_n hx hb dX6_isStocked_13 rfl (lv_at hl 2 rfl) ?_
            refine lv_iload_n hx hb dX6_isStocked_14 rfl (lv_at hl 0 rfl) ?_
            refine xc_ro (n := 1) (K := 16) (i := i) (As := [.int 2]) (rest := [.int (σ 7 2)]) (v := [.int (f_needed σ (nI i) 2)]) ⟨hx, hb, hml, hown, hts⟩ hK hX hi rfl rfl (qX0_gramsNeeded la g ad σ u τ hI i hi 2 (vin_dec (by decide +kernel))) gX6_isStocked_X0_gramsNeeded rfl rfl rfl (by decide +kernel) ⟨Nat.le_of_ble_eq_true rfl, Nat.le_of_ble_eq_true rfl⟩ rfl hl.1 rfl (Nat.le_of_ble_eq_true rfl) dX6_isStocked_15 ⟨Nat.zero_le _, Nat.zero_le _⟩ rfl ?_
            refine lv_icmp_ge (tgt := 23) hx hb dX6_isStocked_18 (by decide) (fun c_6 => ?_) (fun c_6 => ?_)
            · replace c_6 := Int32.not_lt.mpr c_6
              refine lv_iinc (v := 3) (lv' := [(2, .int 3), (0, .ref (ad 0 0)), (1, .ref (ad 16 i))]) hx hb dX6_isStocked_23 hl (k := 0) rfl (by decide) (by decide) rfl (fun ls hl => ?_)
              refine lv_goto (tgt := 2) hx hb dX6_isStocked_26 (by decide) ?_
              refine lv_iload_n hx hb dX6_isStocked_2 rfl (lv_at hl 0 rfl) ?_
              refine lv_iconst (v := 3) hx hb dX6_isStocked_3 (by decide) ?_
              refine lv_icmp_ge (tgt := 29) hx hb dX6_isStocked_4 (by decide) (fun c_7 => ?_) (fun c_7 => ?_)
              · replace c_7 := Int32.not_lt.mpr c_7
                refine lv_iconst (v := 1) hx hb dX6_isStocked_29 (by decide) ?_
                exact W.zret (v := 1) hx hb hr rfl (fun t ht9 hW => ⟨congrArg (fun z => Outcome.returned (some (Value.int z))) (by first | rfl | (simp [-Int32.not_lt, -Int32.not_le, okL, okV, okO, okR, okD, isP, shP, stk, c_1, c_2, c_3, c_4, c_5, c_6, c_7]; done) | (simp_all [-Int32.not_lt, -Int32.not_le, okL, okV, okO, okR, okD, isP, shP, stk]; done)), ht9⟩) (fun _ h => nomatch h) dX6_isStocked_30
              · exact absurd c_7 (by decide)
            · replace c_6 := Int32.not_le.mp c_6
              refine lv_iconst (v := 0) hx hb dX6_isStocked_21 (by decide) ?_
              exact W.zret (v := 0) hx hb hr rfl (fun t ht9 hW => ⟨congrArg (fun z => Outcome.returned (some (Value.int z))) (by first | rfl | (simp [-Int32.not_lt, -Int32.not_le, okL, okV, okO, okR, okD, isP, shP, stk, c_1, c_2, c_3, c_4, c_5, c_6]; done) | (simp_all [-Int32.not_lt, -Int32.not_le, okL, okV, okO, okR, okD, isP, shP, stk]; done)), ht9⟩) (fun _ h => nomatch h) dX6_isStocked_22
        · replace c_4 := Int32.not_le.mp c_4
          refine lv_iconst (v := 0) hx hb dX6_isStocked_21 (by decide) ?_
          exact W.zret (v := 0) hx hb hr rfl (fun t ht9 hW => ⟨congrArg (fun z => Outcome.returned (some (Value.int z))) (by first | rfl | (simp [-Int32.not_lt, -Int32.not_le, okL, okV, okO, okR, okD, isP, shP, stk, c_1, c_2, c_3, c_4]; done) | (simp_all [-Int32.not_lt, -Int32.not_le, okL, okV, okO, okR, okD, isP, shP, stk]; done)), ht9⟩) (fun _ h => nomatch h) dX6_isStocked_22
    · replace c_2 := Int32.not_le.mp c_2
      refine lv_iconst (v := 0) hx hb dX6_isStocked_21 (by decide) ?_
      exact W.zret (v := 0) hx hb hr rfl (fun t ht9 hW => ⟨congrArg (fun z => Outcome.returned (some (Value.int z))) (by first | rfl | (simp [-Int32.not_lt, -Int32.not_le, okL, okV, okO, okR, okD, isP, shP, stk, c_1, c_2]; done) | (simp_all [-Int32.not_lt, -Int32.not_le, okL, okV, okO, okR, okD, isP, shP, stk]; done)), ht9⟩) (fun _ h => nomatch h) dX6_isStocked_22
set_option maxHeartbeats 4000000 in
set_option maxRecDepth 100000 in
theorem qX6_reasonAgainst (la : Launch) (g : EG) (ad : Nat → Nat → Nat) (σ : Sg) (u : Nat → Int64) (τ : Sg) (hI : INV σ) (i : Nat) (hi : i < nL σ) (v : Nat) (hv : v < nV σ) : Met la yX6_reasonAgainst wsX6_reasonAgainst ({ frames := 2, cells := 0, slots := 0, locals := 43 } : Room) (va_Pc [.ref (ad 0 0), .ref (ad 16 i), .ref (ad 18 v)] (fun U => XR g ad σ u τ U.heap ∧ KK g U)) (QR (.returned (some (.int (f_why σ (nI i) (nI v)))))) 0 0 (fun _ => False) := by
  refine Met.ofW (cc := cX6_reasonAgainst) (maxL := 3) (ret := (some .char)) (by decide) rfl ?_
  intro p e s m args below meth c s₁ B hml hv
  obtain ⟨rfl, hX, hK⟩ := hv
  have hx := B.exec
  have hb := B.bytes
  have hr := B.returns
  have hts := atoms_spec (ws := wsX6_reasonAgainst) B.pre
  have hown : s.vm.findClass RX6 = some m.cls := findClass_of_methodNamed B.named
  have hlocks := B.notSynchronized
  have hinX0 : ∀ w ∈ wsX00, w ∈ wsX6_reasonAgainst := by decide +kernel
  have hinX1 : ∀ w ∈ wsX10, w ∈ wsX6_reasonAgainst := by decide +kernel
  have hinX3 : ∀ w ∈ wsX30, w ∈ wsX6_reasonAgainst := by decide +kernel
  have hinX4 : ∀ w ∈ wsX40, w ∈ wsX6_reasonAgainst := by decide +kernel
  have hinX5 : ∀ w ∈ wsX50, w ∈ wsX6_reasonAgainst := by decide +kernel
  have lk134 := hts (.fieldLink RX6 134 "DyehouseLedger$Vat" "light" "I") (by decide +kernel)
  have lk147 := hts (.fieldLink RX6 147 "DyehouseLedger$Lot" "state" "C") (by decide +kernel)
  have lk167 := hts (.fieldLink RX6 167 "DyehouseLedger$Vat" "onlyCustomer" "I") (by decide +kernel)
  have lk188 := hts (.fieldLink RX6 188 "DyehouseLedger$Lot" "weight" "I") (by decide +kernel)
  have lk191 := hts (.fieldLink RX6 191 "DyehouseLedger$Vat" "mostWeight" "I") (by decide +kernel)
  have lk218 := hts (.fieldLink RX6 218 "DyehouseLedger$Shade" "light" "I") (by decide +kernel)
  have lk236 := hts (.fieldLink RX6 236 "DyehouseLedger$Lot" "order" "LDyehouseLedger$Order;") (by decide +kernel)
  have lk260 := hts (.fieldLink RX6 260 "DyehouseLedger$Order" "customer" "I") (by decide +kernel)
  have lk272 := hts (.fieldLink RX6 272 "DyehouseLedger$Order" "recipe" "LDyehouseLedger$Recipe;") (by decide +kernel)
  have lk276 := hts (.fieldLink RX6 276 "DyehouseLedger$Recipe" "shade" "LDyehouseLedger$Shade;") (by decide +kernel)
  have hl := lv_entry ([.ref (ad 0 0), .ref (ad 16 i), .ref (ad 18 v)]) (n := 3) (Nat.le_of_ble_eq_true rfl)
  rw [lg_entry_eq]
  generalize (lg_sl ([.ref (ad 0 0), .ref (ad 16 i), .ref (ad 18 v)]) ++ List.replicate (3 - (lg_sl ([.ref (ad 0 0), .ref (ad 16 i), .ref (ad 18 v)])).length) Slot.unset).toArray = ls at hl ⊢
  have hl : lv_has ls 3 [(0, .ref (ad 0 0)), (1, .ref (ad 16 i)), (2, .ref (ad 18 v))] := hl
  refine lv_aload_n hx hb dX6_reasonAgainst_0 rfl (lv_at hl 1 rfl) ?_
  refine x_get (K := 16) (i := i) (v := .int (σ 21 i)) hx hb hts hinX0 hown hK hX hi 4 rfl rfl (by decide) rfl lk147 rfl dX6_reasonAgainst_1 ?_
  refine lv_bipush (v := 119) hx hb dX6_reasonAgainst_4 (by decide) ?_
  refine lv_icmp_eq (tgt := 12) hx hb dX6_reasonAgainst_6 (by decide) (fun c_1 => ?_) (fun c_1 => ?_)
  · refine lv_aload_n hx hb dX6_reasonAgainst_12 rfl (lv_at hl 1 rfl) ?_
    refine x_get (K := 16) (i := i) (v := .int (σ 15 i)) hx hb hts hinX0 hown hK hX hi 2 rfl rfl (by decide) rfl lk188 rfl dX6_reasonAgainst_13 ?_
    refine lv_aload_n hx hb dX6_reasonAgainst_16 rfl (lv_at hl 2 rfl) ?_
    refine x_get (K := 18) (i := v) (v := .int (σ 22 v)) hx hb hts hinX5 hown hK hX hv 1 rfl rfl (by decide) rfl lk191 rfl dX6_reasonAgainst_17 ?_
    refine lv_icmp_le (tgt := 26) hx hb dX6_reasonAgainst_20 (by decide) (fun c_2 => ?_) (fun c_2 => ?_)
    · replace c_2 := Int32.not_lt.mpr c_2
      refine lv_aload_n hx hb dX6_reasonAgainst_26 rfl (lv_at hl 2 rfl) ?_
      refine x_get (K := 18) (i := v) (v := .int (σ 23 v)) hx hb hts hinX5 hown hK hX hv 2 rfl rfl (by decide) rfl lk134 rfl dX6_reasonAgainst_27 ?_
      refine lv_aload_n hx hb dX6_reasonAgainst_30 rfl (lv_at hl 1 rfl) ?_
      refine x_get (K := 16) (i := i) (v := .ref (ad 15 (ti (σ 14 i)))) hx hb hts hinX0 hown hK hX hi 1 rfl rfl (by decide) rfl lk236 rfl dX6_reasonAgainst_31 ?_
      refine x_get (K := 15) (i := (ti (σ 14 i))) (v := .ref (ad 12 (ti (σ 10 (ti (σ 14 i)))))) hx hb hts hinX1 hown hK hX (vin_lt (hI.2.2.1 _ hi)) 1 rfl rfl (by decide) rfl lk272 rfl dX6_reasonAgainst_34 ?_
      refine x_get (K := 12) (i := (ti (σ 10 (ti (σ 14 i))))) (v := .ref (ad 13 (ti (σ 10 (ti (σ 14 i)))))) hx hb hts hinX3 hown hK hX (vin_lt (hI.2.1 _ (vin_lt (hI.2.2.1 _ hi)))) 0 rfl rfl (by decide) rfl lk276 rfl dX6_reasonAgainst_37 ?_
      refine x_get (K := 13) (i := (ti (σ 10 (ti (σ 14 i))))) (v := .int (σ 5 (3 * (ti (σ 10 (ti (σ 14 i))))))) hx hb hts hinX4 hown hK hX (vin_lt (hI.2.1 _ (vin_lt (hI.2.2.1 _ hi)))) 0 rfl rfl (by decide) rfl lk218 rfl dX6_reasonAgainst_40 ?_
      refine sc_ro (n := 2) (As := [.int (σ 23 v), .int (σ 5 (3 * (ti (σ 10 (ti (σ 14 i))))))]) (rest := []) (v := [.int (if ¬ (σ 23 v) = -1 ∧ (σ 23 v) < (σ 5 (3 * (ti (σ 10 (ti (σ 14 i)))))) then 1 else 0)]) ⟨hx, hb, hml, hown, hts⟩ (qX6_isTooDark la (σ 23 v) (σ 5 (3 * (ti (σ 10 (ti (σ 14 i))))))) gX6_reasonAgainst_X6_isTooDark rfl rfl rfl (by decide +kernel) ⟨Nat.le_of_ble_eq_true rfl, Nat.le_of_ble_eq_true rfl⟩ rfl hl.1 rfl (Nat.le_of_ble_eq_true rfl) dX6_reasonAgainst_43 ⟨Nat.zero_le _, Nat.zero_le _⟩ rfl ?_
      refine br_if_eq (c9 := ¬ (σ 23 v) = -1 ∧ (σ 23 v) < (σ 5 (3 * (ti (σ 10 (ti (σ 14 i))))))) (tgt := 52) hx hb dX6_reasonAgainst_46 (by decide) (fun c_3 => ?_) (fun c_3 => ?_)
      · refine lv_aload_n hx hb dX6_reasonAgainst_52 rfl (lv_at hl 2 rfl) ?_
        refine x_get (K := 18) (i := v) (v := .int (σ 24 v)) hx hb hts hinX5 hown hK hX hv 3 rfl rfl (by decide) rfl lk167 rfl dX6_reasonAgainst_53 ?_
        refine lv_aload_n hx hb dX6_reasonAgainst_56 rfl (lv_at hl 1 rfl) ?_
        refine x_get (K := 16) (i := i) (v := .ref (ad 15 (ti (σ 14 i)))) hx hb hts hinX0 hown hK hX hi 1 rfl rfl (by decide) rfl lk236 rfl dX6_reasonAgainst_57 ?_
        refine x_get (K := 15) (i := (ti (σ 14 i))) (v := .int (σ 9 (ti (σ 14 i)))) hx hb hts hinX1 hown hK hX (vin_lt (hI.2.2.1 _ hi)) 0 rfl rfl (by decide) rfl lk260 rfl dX6_reasonAgainst_60 ?_
        refine sc_ro (n := 2) (As := [.int (σ 24 v), .int (σ 9 (ti (σ 14 i)))]) (rest := []) (v := [.int (if ¬ (σ 24 v) = -1 ∧ ¬ (σ 24 v) = (σ 9 (ti (σ 14 i))) then 1 else 0)]) ⟨hx, hb, hml, hown, hts⟩ (qX6_isBarred la (σ 24 v) (σ 9 (ti (σ 14 i)))) gX6_reasonAgainst_X6_isBarred rfl rfl rfl (by decide +kernel) ⟨Nat.le_of_ble_eq_true rfl, Nat.le_of_ble_eq_true rfl⟩ rfl hl.1 rfl (Nat.le_of_ble_eq_true rfl) dX6_reasonAgainst_63 ⟨Nat.zero_le _, Nat.zero_le _⟩ rfl ?_
        refine br_if_eq (c9 := ¬ (σ 24 v) = -1 ∧ ¬ (σ 24 v) = (σ 9 (ti (σ 14 i)))) (tgt := 72) hx hb dX6_reasonAgainst_66 (by decide) (fun c_4 => ?_) (fun c_4 => ?_)
        · refine lv_aload_n hx hb dX6_reasonAgainst_72 rfl (lv_at hl 0 rfl) ?_
          refine lv_aload_n hx hb dX6_reasonAgainst_73 rfl (lv_at hl 1 rfl) ?_
          refine xc_ro (n := 1) (K := 0) (i := 0) (As := [.ref (ad 16 i)]) (rest := []) (v := [.int (if stk σ i then 1 else 0)]) ⟨hx, hb, hml, hown, hts⟩ hK hX (show 0 < 1 from Nat.zero_lt_one) rfl rfl (qX6_isStocked la g ad σ u τ hI i hi) gX6_reasonAgainst_X6_isStocked rfl rfl rfl (by decide +kernel) ⟨Nat.le_of_ble_eq_true rfl, Nat.le_of_ble_eq_true rfl⟩ rfl hl.1 rfl (Nat.le_of_ble_eq_true rfl) dX6_reasonAgainst_74 ⟨Nat.zero_le _, Nat.zero_le _⟩ rfl ?_
          refine br_if_eq (c9 := stk σ i) (tgt := 85) hx hb dX6_reasonAgainst_77 (by decide) (fun c_5 => ?_) (fun c_5 => ?_)
          · refine lv_bipush (v := 103) hx hb dX6_reasonAgainst_85 (by decide) ?_
            exact W.zret (v := 103) hx hb hr rfl (fun t ht9 hW => ⟨congrArg (fun z => Outcome.returned (some (Value.int z))) (by rw [whyNI hI hi hv]; (repeat' split) <;> first | rfl | contradiction | (exfalso; simp_all [-Int32.not_lt, -Int32.not_le]; done)), ht9⟩) (fun _ h => nomatch h) dX6_reasonAgainst_87
          · refine lv_bipush (v := 45) hx hb dX6_reasonAgainst_80 (by decide) ?_
            refine lv_goto (tgt := 87) hx hb dX6_reasonAgainst_82 (by decide) ?_
            exact W.zret (v := 45) hx hb hr rfl (fun t ht9 hW => ⟨congrArg (fun z => Outcome.returned (some (Value.int z))) (by rw [whyNI hI hi hv]; (repeat' split) <;> first | rfl | contradiction | (exfalso; simp_all [-Int32.not_lt, -Int32.not_le]; done)), ht9⟩) (fun _ h => nomatch h) dX6_reasonAgainst_87
        · refine lv_bipush (v := 98) hx hb dX6_reasonAgainst_69 (by decide) ?_
          exact W.zret (v := 98) hx hb hr rfl (fun t ht9 hW => ⟨congrArg (fun z => Outcome.returned (some (Value.int z))) (by rw [whyNI hI hi hv]; (repeat' split) <;> first | rfl | contradiction | (exfalso; simp_all [-Int32.not_lt, -Int32.not_le]; done)), ht9⟩) (fun _ h => nomatch h) dX6_reasonAgainst_71
      · refine lv_bipush (v := 115) hx hb dX6_reasonAgainst_49 (by decide) ?_
        exact W.zret (v := 115) hx hb hr rfl (fun t ht9 hW => ⟨congrArg (fun z => Outcome.returned (some (Value.int z))) (by rw [whyNI hI hi hv]; (repeat' split) <;> first | rfl | contradiction | (exfalso; simp_all [-Int32.not_lt, -Int32.not_le]; done)), ht9⟩) (fun _ h => nomatch h) dX6_reasonAgainst_51
    · replace c_2 := Int32.not_le.mp c_2
      refine lv_bipush (v := 104) hx hb dX6_reasonAgainst_23 (by decide) ?_
      exact W.zret (v := 104) hx hb hr rfl (fun t ht9 hW => ⟨congrArg (fun z => Outcome.returned (some (Value.int z))) (by rw [whyNI hI hi hv]; (repeat' split) <;> first | rfl | contradiction | (exfalso; simp_all [-Int32.not_lt, -Int32.not_le]; done)), ht9⟩) (fun _ h => nomatch h) dX6_reasonAgainst_25
  · refine lv_bipush (v := 119) hx hb dX6_reasonAgainst_9 (by decide) ?_
    exact W.zret (v := 119) hx hb hr rfl (fun t ht9 hW => ⟨congrArg (fun z => Outcome.returned (some (Value.int z))) (by rw [whyNI hI hi hv]; (repeat' split) <;> first | rfl | contradiction | (exfalso; simp_all [-Int32.not_lt, -Int32.not_le]; done)), ht9⟩) (fun _ h => nomatch h) dX6_reasonAgainst_11
set_option maxHeartbeats 4000000 in
set_option maxRecDepth 100000 in
theorem qX6_greatestDistanceFromPassed (la : Launch) (g : EG) (ad : Nat → Nat → Nat) (σ : Sg) (u : Nat → Int64) (τ : Sg) (hI : INV σ) (lo : Nat) (hA : XA lo ad σ) (i : Nat) (hi : i < nL σ) : Met la yX6_greatestDistanceFromPassed wsX6_greatestDistanceFromPassed ({ frames := 2, cells := 0, slots := 0, locals := 51 } : Room) (va_Pc [.ref (ad 0 0), .ref (ad 16 i)] (fun U => XR g ad σ u τ U.heap ∧ KK g U)) (QR (.returned (some (.int (greatF σ i 24))))) 0 0 (fun _ => False) := by
  refine Met.ofW (cc := cX6_greatestDistanceFromPassed) (maxL := 7) (ret := (some .int)) (by decide) rfl ?_
  intro p e s m args below meth c s₁ B hml hv
  obtain ⟨rfl, hX, hK⟩ := hv
  have hx := B.exec
  have hb := B.bytes
  have hr := B.returns
  have hts := atoms_spec (ws := wsX6_greatestDistanceFromPassed) B.pre
  have hown : s.vm.findClass RX6 = some m.cls := findClass_of_methodNamed B.named
  have hlocks := B.notSynchronized
  have hinX0 : ∀ w ∈ wsX00, w ∈ wsX6_greatestDistanceFromPassed := by decide +kernel
  have hinX6 : ∀ w ∈ wsX60, w ∈ wsX6_greatestDistanceFromPassed := by decide +kernel
  have lk140 := hts (.fieldLink RX6 140 "DyehouseLedger$Lot" "shade" "LDyehouseLedger$Shade;") (by decide +kernel)
  have lk23 := hts (.fieldLink RX6 23 "DyehouseLedger" "allLots" "[LDyehouseLedger$Lot;") (by decide +kernel)
  have lk236 := hts (.fieldLink RX6 236 "DyehouseLedger$Lot" "order" "LDyehouseLedger$Order;") (by decide +kernel)
  have mcmax := hts (.code Lib.Math.max.name Lib.Math.max.code 2 (some .int)) (by decide +kernel)
  have mimax := hts (.initialized "java/lang/Math") (by decide +kernel)
  have ml247 := hts (.methodLink RX6 247 Lib.Math.max.name) (by decide +kernel)
  have msmax := hts (.static Lib.Math.max.name) (by decide +kernel)
  have hl := lv_entry ([.ref (ad 0 0), .ref (ad 16 i)]) (n := 7) (Nat.le_of_ble_eq_true rfl)
  rw [lg_entry_eq]
  generalize (lg_sl ([.ref (ad 0 0), .ref (ad 16 i)]) ++ List.replicate (7 - (lg_sl ([.ref (ad 0 0), .ref (ad 16 i)])).length) Slot.unset).toArray = ls at hl ⊢
  have hl : lv_has ls 7 [(0, .ref (ad 0 0)), (1, .ref (ad 16 i))] := hl
  have hbL := hI.l.1
  have hbO := hI.o.1
  have hbV := hI.v.1
  refine lv_iconst (v := 0) hx hb dX6_greatestDistanceFromPassed_0 (by decide) ?_
  refine lv_istore_n (lv' := [(2, .int 0), (0, .ref (ad 0 0)), (1, .ref (ad 16 i))]) hx hb dX6_greatestDistanceFromPassed_1 rfl hl (by decide) rfl (fun ls hl => ?_)
  refine lv_aload_n hx hb dX6_greatestDistanceFromPassed_2 rfl (lv_at hl 1 rfl) ?_
  refine x_get (K := 0) (i := 0) (v := .ref (ad 3 0)) hx hb hts hinX6 hown hK hX (show 0 < 1 from Nat.zero_lt_one) 2 rfl rfl (by decide) rfl lk23 rfl dX6_greatestDistanceFromPassed_3 ?_
  refine lv_astore_n (lv' := [(3, .ref (ad 3 0)), (2, .int 0), (0, .ref (ad 0 0)), (1, .ref (ad 16 i))]) hx hb dX6_greatestDistanceFromPassed_6 rfl hl (by decide) rfl (fun ls hl => ?_)
  refine lv_aload_n hx hb dX6_greatestDistanceFromPassed_7 rfl (lv_at hl 0 rfl) ?_
  refine x_alen (K := 3) (t0 := 3) (v := 24) hx hb hK hX (show 0 < 1 from Nat.zero_lt_one) rfl rfl rfl dX6_greatestDistanceFromPassed_8 ?_
  refine lv_istore (lv' := [(4, .int 24), (3, .ref (ad 3 0)), (2, .int 0), (0, .ref (ad 0 0)), (1, .ref (ad 16 i))]) hx hb dX6_greatestDistanceFromPassed_9 hl (by decide) rfl (fun ls hl => ?_)
  refine lv_iconst (v := 0) hx hb dX6_greatestDistanceFromPassed_11 (by decide) ?_
  refine lv_istore (lv' := [(5, .int 0), (4, .int 24), (3, .ref (ad 3 0)), (2, .int 0), (0, .ref (ad 0 0)), (1, .ref (ad 16 i))]) hx hb dX6_greatestDistanceFromPassed_12 hl (by decide) rfl (fun ls hl => ?_)
  have lp14 : ∀ (n9 : Nat) (j : Nat), (j ≤ 24) → 24 - j < n9 → ∀ (ls : Array Slot), lv_has ls 7 [(0, .ref (ad 0 0)), (1, .ref (ad 16 i)), (2, .int (greatF σ i j)), (3, .ref (ad 3 0)), (4, .int 24), (5, .int (nI j))] → W p la e ({ frames := 2, cells := 0, slots := 0, locals := 51 } : Room) s m ([.ref (ad 0 0), .ref (ad 16 i)] : List Value).toArray below meth c s.heap [] 0 0 (MQ below (QR (.returned (some (.int (greatF σ i 24))))) ([.ref (ad 0 0), .ref (ad 16 i)] : List Value).toArray s 0 0 (fun _ => False)) (F0 m 14 ls []) := by
    intro n9_14
    induction n9_14 with
    | zero => intro j _ h9 ; exact absurd h9 (Nat.not_lt_zero _)
    | succ n9_14 ih_14 =>
      intro j hj h9 ls hl
      refine lv_iload hx hb dX6_greatestDistanceFromPassed_14 (lv_at hl 5 rfl) ?_
      refine lv_iload hx hb dX6_greatestDistanceFromPassed_16 (lv_at hl 4 rfl) ?_
      refine lv_icmp_ge (tgt := 67) hx hb dX6_greatestDistanceFromPassed_18 (by decide) (fun c_1 => ?_) (fun c_1 => ?_)
      · replace c_1 := Int32.not_lt.mpr c_1
        obtain rfl : j = 24 := ge24 hj c_1
        refine lv_iload_n hx hb dX6_greatestDistanceFromPassed_67 rfl (lv_at hl 2 rfl) ?_
        exact W.iret (v := (greatF σ i 24)) hx hb hr (fun t ht9 hW => ⟨congrArg (fun z => Outcome.returned (some (Value.int z))) (by first | rfl | (simp only [greatF_s, grSt]; (repeat' split) <;> first | rfl | contradiction | exact Int32.add_zero _ | (exfalso; simp_all [-Int32.not_lt, -Int32.not_le]; done)) | (simp only [greatF_s, grSt]; simp_all [-Int32.not_lt, -Int32.not_le]; done)), ht9⟩) (fun _ h => nomatch h) dX6_greatestDistanceFromPassed_68
      · replace c_1 := Int32.not_le.mp c_1
        have hj1 : j < 24 := lt24 hj c_1
        refine lv_aload_n hx hb dX6_greatestDistanceFromPassed_21 rfl (lv_at hl 3 rfl) ?_
        refine lv_iload hx hb dX6_greatestDistanceFromPassed_22 (lv_at hl 5 rfl) ?_
        by_cases z_2 : j < nL σ
        · refine x_aald (K := 3) (t0 := 3) (C := RX0) (n := 24) (f := refA ad 16 (nL σ)) (j := (nI j)) (v := .ref (ad 16 j)) hx hb hK hX (show 0 < 1 from Nat.zero_lt_one) rfl rfl (vin_nI hj1 (by decide)) (by rw [(ti_nI (by omega))]; exact refA_in z_2) dX6_greatestDistanceFromPassed_24 ?_
          refine lv_astore (lv' := [(6, .ref (ad 16 j)), (0, .ref (ad 0 0)), (1, .ref (ad 16 i)), (2, .int (greatF σ i j)), (3, .ref (ad 3 0)), (4, .int 24), (5, .int (nI j))]) hx hb dX6_greatestDistanceFromPassed_25 hl (by decide) rfl (fun ls hl => ?_)
          refine lv_aload hx hb dX6_greatestDistanceFromPassed_27 (lv_at hl 0 rfl) ?_
          refine lv_ifnull hx hb dX6_greatestDistanceFromPassed_29 ?_
          refine lv_aload hx hb dX6_greatestDistanceFromPassed_32 (lv_at hl 0 rfl) ?_
          refine lv_aload_n hx hb dX6_greatestDistanceFromPassed_34 rfl (lv_at hl 2 rfl) ?_
          refine x_get (K := 16) (i := i) (v := .ref (ad 15 (ti (σ 14 i)))) hx hb hts hinX0 hown hK hX hi 1 rfl rfl (by decide) rfl lk236 rfl dX6_greatestDistanceFromPassed_35 ?_
          refine xc_ro (n := 1) (K := 16) (i := j) (As := [.ref (ad 15 (ti (σ 14 i)))]) (rest := []) (v := [.int (if σ 14 j = nI (ti (σ 14 i)) ∧ σ 21 j = 112 then 1 else 0)]) ⟨hx, hb, hml, hown, hts⟩ hK hX z_2 rfl rfl (qX0_isPassedOf la g ad σ u τ hI lo hA j z_2 (ti (σ 14 i)) (vin_lt (hI.2.2.1 _ hi))) gX6_greatestDistanceFromPassed_X0_isPassedOf rfl rfl rfl (by decide +kernel) ⟨Nat.le_of_ble_eq_true rfl, Nat.le_of_ble_eq_true rfl⟩ rfl hl.1 rfl (Nat.le_of_ble_eq_true rfl) dX6_greatestDistanceFromPassed_38 ⟨Nat.zero_le _, Nat.zero_le _⟩ rfl ?_
          refine br_if_eq (c9 := σ 14 j = nI (ti (σ 14 i)) ∧ σ 21 j = 112) (tgt := 61) hx hb dX6_greatestDistanceFromPassed_41 (by decide) (fun c_3 => ?_) (fun c_3 => ?_)
          · refine lv_iinc (v := ((nI j) + 1)) (lv' := [(5, .int ((nI j) + 1)), (6, .ref (ad 16 j)), (0, .ref (ad 0 0)), (1, .ref (ad 16 i)), (2, .int (greatF σ i j)), (3, .ref (ad 3 0)), (4, .int 24)]) hx hb dX6_greatestDistanceFromPassed_61 hl (k := 6) rfl rfl (by decide) rfl (fun ls hl => ?_)
            refine lv_goto (tgt := 14) hx hb dX6_greatestDistanceFromPassed_64 (by decide) ?_
            have e_4 : ((greatF σ i (j + 1)) : Int32) = (greatF σ i j) := (by first | rfl | (simp only [greatF_s, grSt]; (repeat' split) <;> first | rfl | contradiction | exact Int32.add_zero _ | (exfalso; simp_all [-Int32.not_lt, -Int32.not_le]; done)) | (simp only [greatF_s, grSt]; simp_all [-Int32.not_lt, -Int32.not_le]; done))
            have e_5 : ((nI (j + 1)) : Int32) = ((nI j) + 1) := (nI_1 j).symm
            have hl2 : lv_has ls 7 [(0, .ref (ad 0 0)), (1, .ref (ad 16 i)), (2, .int (greatF σ i (j + 1))), (3, .ref (ad 3 0)), (4, .int 24), (5, .int (nI (j + 1)))] := by
              rw [e_4, e_5]
              exact lv_sub hl [2, 3, 4, 5, 6, 0] rfl
            exact ih_14 (j + 1) (by omega) (by omega) ls hl2
          · refine lv_iload_n hx hb dX6_greatestDistanceFromPassed_44 rfl (lv_at hl 3 rfl) ?_
            refine lv_aload_n hx hb dX6_greatestDistanceFromPassed_45 rfl (lv_at hl 2 rfl) ?_
            refine x_get (K := 16) (i := i) (v := .ref (ad 17 i)) hx hb hts hinX0 hown hK hX hi 3 rfl rfl (by decide) rfl lk140 rfl dX6_greatestDistanceFromPassed_46 ?_
            refine lv_aload hx hb dX6_greatestDistanceFromPassed_49 (lv_at hl 0 rfl) ?_
            refine x_get (K := 16) (i := j) (v := .ref (ad 17 j)) hx hb hts hinX0 hown hK hX z_2 3 rfl rfl (by decide) rfl lk140 rfl dX6_greatestDistanceFromPassed_51 ?_
            refine xc_ro (n := 1) (K := 17) (i := i) (As := [.ref (ad 17 j)]) (rest := [.int (greatF σ i j)]) (v := [.int (f_apart σ (nI i) (nI j))]) ⟨hx, hb, hml, hown, hts⟩ hK hX hi rfl rfl (qX4_distanceTo la g ad σ u τ 17 i 17 j (σ 16 (3 * i)) (σ 16 (3 * i + 1)) (σ 16 (3 * i + 2)) (σ 16 (3 * j)) (σ 16 (3 * j + 1)) (σ 16 (3 * j + 2)) hi z_2 (fun _ => rfl) (fun _ => rfl) (hI.2.2.2.2.2.2.2.2.2.2.1 _) (hI.2.2.2.2.2.2.2.2.2.2.1 _) (hI.2.2.2.2.2.2.2.2.2.2.1 _) (hI.2.2.2.2.2.2.2.2.2.2.1 _) (hI.2.2.2.2.2.2.2.2.2.2.1 _) (hI.2.2.2.2.2.2.2.2.2.2.1 _)) gX6_greatestDistanceFromPassed_X4_distanceTo rfl rfl rfl (by decide +kernel) ⟨Nat.le_of_ble_eq_true rfl, Nat.le_of_ble_eq_true rfl⟩ rfl hl.1 rfl (Nat.le_of_ble_eq_true rfl) dX6_greatestDistanceFromPassed_54 ⟨Nat.zero_le _, Nat.zero_le _⟩ (congrArg (fun z => [Value.int z]) (apartNI (by omega) (by omega)).symm) ?_
            refine va_mmax hx hb (hml.trans hl.1.symm) hown ml247 msmax mimax mcmax (Nat.le_of_ble_eq_true rfl) (Nat.le_of_ble_eq_true rfl) (Nat.zero_le _) (Nat.zero_le _) dX6_greatestDistanceFromPassed_57 ?_
            refine lv_istore_n (lv' := [(2, .int (if (greatF σ i j) < (f_apart σ (nI i) (nI j)) then (f_apart σ (nI i) (nI j)) else (greatF σ i j))), (6, .ref (ad 16 j)), (0, .ref (ad 0 0)), (1, .ref (ad 16 i)), (3, .ref (ad 3 0)), (4, .int 24), (5, .int (nI j))]) hx hb dX6_greatestDistanceFromPassed_60 rfl hl (by decide) rfl (fun ls hl => ?_)
            refine lv_iinc (v := ((nI j) + 1)) (lv' := [(5, .int ((nI j) + 1)), (2, .int (if (greatF σ i j) < (f_apart σ (nI i) (nI j)) then (f_apart σ (nI i) (nI j)) else (greatF σ i j))), (6, .ref (ad 16 j)), (0, .ref (ad 0 0)), (1, .ref (ad 16 i)), (3, .ref (ad 3 0)), (4, .int 24)]) hx hb dX6_greatestDistanceFromPassed_61 hl (k := 6) rfl rfl (by decide) rfl (fun ls hl => ?_)
            refine lv_goto (tgt := 14) hx hb dX6_greatestDistanceFromPassed_64 (by decide) ?_
            have e_6 : ((greatF σ i (j + 1)) : Int32) = (if (greatF σ i j) < (f_apart σ (nI i) (nI j)) then (f_apart σ (nI i) (nI j)) else (greatF σ i j)) := (by first | rfl | (simp only [greatF_s, grSt]; (repeat' split) <;> first | rfl | contradiction | exact Int32.add_zero _ | (exfalso; simp_all [-Int32.not_lt, -Int32.not_le]; done)) | (simp only [greatF_s, grSt]; simp_all [-Int32.not_lt, -Int32.not_le]; done))
            have e_7 : ((nI (j + 1)) : Int32) = ((nI j) + 1) := (nI_1 j).symm
            have hl2 : lv_has ls 7 [(0, .ref (ad 0 0)), (1, .ref (ad 16 i)), (2, .int (greatF σ i (j + 1))), (3, .ref (ad 3 0)), (4, .int 24), (5, .int (nI (j + 1)))] := by
              rw [e_6, e_7]
              exact lv_sub hl [3, 4, 1, 5, 6, 0] rfl
            exact ih_14 (j + 1) (by omega) (by omega) ls hl2
        · refine x_aald (K := 3) (t0 := 3) (C := RX0) (n := 24) (f := refA ad 16 (nL σ)) (j := (nI j)) (v := .null) hx hb hK hX (show 0 < 1 from Nat.zero_lt_one) rfl rfl (vin_nI hj1 (by decide)) (by rw [(ti_nI (by omega))]; exact refA_no z_2) dX6_greatestDistanceFromPassed_24 ?_
          refine lv_astoreN (lv' := [(6, .null), (0, .ref (ad 0 0)), (1, .ref (ad 16 i)), (2, .int (greatF σ i j)), (3, .ref (ad 3 0)), (4, .int 24), (5, .int (nI j))]) hx hb dX6_greatestDistanceFromPassed_25 hl (by decide) rfl (fun ls hl => ?_)
          refine lv_aloadN hx hb dX6_greatestDistanceFromPassed_27 (lv_at hl 0 rfl) ?_
          refine lv_ifnullN (tgt := 61) hx hb dX6_greatestDistanceFromPassed_29 (by decide) ?_
          refine lv_iinc (v := ((nI j) + 1)) (lv' := [(5, .int ((nI j) + 1)), (6, .null), (0, .ref (ad 0 0)), (1, .ref (ad 16 i)), (2, .int (greatF σ i j)), (3, .ref (ad 3 0)), (4, .int 24)]) hx hb dX6_greatestDistanceFromPassed_61 hl (k := 6) rfl rfl (by decide) rfl (fun ls hl => ?_)
          refine lv_goto (tgt := 14) hx hb dX6_greatestDistanceFromPassed_64 (by decide) ?_
          have e_8 : ((greatF σ i (j + 1)) : Int32) = (greatF σ i j) := (by first | rfl | (simp only [greatF_s, grSt]; (repeat' split) <;> first | rfl | contradiction | exact Int32.add_zero _ | (exfalso; simp_all [-Int32.not_lt, -Int32.not_le]; done)) | (simp only [greatF_s, grSt]; simp_all [-Int32.not_lt, -Int32.not_le]; done))
          have e_9 : ((nI (j + 1)) : Int32) = ((nI j) + 1) := (nI_1 j).symm
          have hl2 : lv_has ls 7 [(0, .ref (ad 0 0)), (1, .ref (ad 16 i)), (2, .int (greatF σ i (j + 1))), (3, .ref (ad 3 0)), (4, .int 24), (5, .int (nI (j + 1)))] := by
            rw [e_8, e_9]
            exact lv_sub hl [2, 3, 4, 5, 6, 0] rfl
          exact ih_14 (j + 1) (by omega) (by omega) ls hl2
  have e_10 : ((greatF σ i (0)) : Int32) = 0 := (by first | rfl | (simp only [greatF_s, grSt]; (repeat' split) <;> first | rfl | contradiction | exact Int32.add_zero _ | (exfalso; simp_all [-Int32.not_lt, -Int32.not_le]; done)) | (simp only [greatF_s, grSt]; simp_all [-Int32.not_lt, -Int32.not_le]; done))
  have e_11 : ((nI (0)) : Int32) = 0 := (by first | rfl | (simp only [greatF_s, grSt]; (repeat' split) <;> first | rfl | contradiction | exact Int32.add_zero _ | (exfalso; simp_all [-Int32.not_lt, -Int32.not_le]; done)) | (simp only [greatF_s, grSt]; simp_all [-Int32.not_lt, -Int32.not_le]; done))
  have hl2 : lv_has ls 7 [(0, .ref (ad 0 0)), (1, .ref (ad 16 i)), (2, .int (greatF σ i (0))), (3, .ref (ad 3 0)), (4, .int 24), (5, .int (nI (0)))] := by
    rw [e_10, e_11]
    exact lv_sub hl [4, 5, 3, 2, 1, 0] rfl
  exact lp14 (24 - 0 + 1) (0) (Nat.zero_le _) (Nat.lt_succ_self _) ls hl2
