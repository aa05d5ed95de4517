set_option maxHeartbeats 4000000 in
set_option maxRecDepth 100000 in
theorem qX2_fewestCleanings (la : Launch) (g : EG) (ad : Nat → Nat → Nat) (σ : Sg) (u : Nat → Int64) (τ : Sg) (N : Nat) (lt cu : Nat → Int32) (wr : Nat → Nat) (hPL : PL τ N lt cu wr) : Met la yX2_fewestCleanings wsX2_fewestCleanings ({ frames := 9, cells := 0, slots := 0, locals := 247 } : Room) (va_Pc [.ref (ad 7 0)] (fun U => XR g ad σ u τ U.heap ∧ KN g U)) (QR (.returned (some (.int (nI (fwF lt cu N N 0 (τ 5 0) (τ 6 0) 0 (N + 1))))))) 0 0 (fun _ => False) := by
  refine Met.ofW (cc := cX2_fewestCleanings) (maxL := 1) (ret := (some .int)) (by decide) rfl ?_
  intro p e s m args below meth c s₁ B hml hv
  obtain ⟨rfl, hX, hN⟩ := hv
  have hK := hN.1
  have hN6 := hPL.1.1
  have hx := B.exec
  have hb := B.bytes
  have hr := B.returns
  have hts := atoms_spec (ws := wsX2_fewestCleanings) B.pre
  have hown : s.vm.findClass RX2 = some m.cls := findClass_of_methodNamed B.named
  have hlocks := B.notSynchronized
  have hinX2 : ∀ w ∈ wsX20, w ∈ wsX2_fewestCleanings := by decide +kernel
  have lk24 := hts (.fieldLink RX2 24 "DyehouseLedger$Plan" "size" "I") (by decide +kernel)
  have lk33 := hts (.fieldLink RX2 33 "DyehouseLedger$Plan" "lightAtFirst" "I") (by decide +kernel)
  have lk39 := hts (.fieldLink RX2 39 "DyehouseLedger$Plan" "onlyCustomerAtFirst" "I") (by decide +kernel)
  have hl := lv_entry ([.ref (ad 7 0)]) (n := 1) (Nat.le_of_ble_eq_true rfl)
  rw [lg_entry_eq]
  generalize (lg_sl ([.ref (ad 7 0)]) ++ List.replicate (1 - (lg_sl ([.ref (ad 7 0)])).length) Slot.unset).toArray = ls at hl ⊢
  have hl : lv_has ls 1 [(0, .ref (ad 7 0))] := hl
  refine lv_aload_n hx hb dX2_fewestCleanings_0 rfl (lv_at hl 0 rfl) ?_
  refine lv_iconst (v := 0) hx hb dX2_fewestCleanings_1 (by decide) ?_
  refine lv_iconst (v := 0) hx hb dX2_fewestCleanings_2 (by decide) ?_
  refine lv_aload_n hx hb dX2_fewestCleanings_3 rfl (lv_at hl 0 rfl) ?_
  refine x_get (K := 7) (i := 0) (v := .int (τ 5 0)) hx hb hts hinX2 hown hK hX (show 0 < 1 from Nat.zero_lt_one) 5 rfl rfl (by decide) rfl lk33 rfl dX2_fewestCleanings_4 ?_
  refine lv_aload_n hx hb dX2_fewestCleanings_7 rfl (lv_at hl 0 rfl) ?_
  refine x_get (K := 7) (i := 0) (v := .int (τ 6 0)) hx hb hts hinX2 hown hK hX (show 0 < 1 from Nat.zero_lt_one) 6 rfl rfl (by decide) rfl lk39 rfl dX2_fewestCleanings_8 ?_
  refine lv_iconst (v := 0) hx hb dX2_fewestCleanings_11 (by decide) ?_
  refine lv_aload_n hx hb dX2_fewestCleanings_12 rfl (lv_at hl 0 rfl) ?_
  refine x_get (K := 7) (i := 0) (v := .int (nI N)) hx hb hts hinX2 hown hK hX Nat.zero_lt_one 4 rfl rfl (by decide) rfl lk24 (congrArg (fun z => some (Value.int z)) hPL.1.2) dX2_fewestCleanings_13 ?_
  refine lv_iconst (v := 1) hx hb dX2_fewestCleanings_16 (by decide) ?_
  refine lv_iadd hx hb dX2_fewestCleanings_17 ?_
  rw [nI_1 N]
  refine xsn_ro (n := 7) (As := [.ref (ad 7 0), .int (nI 0), .int (nI 0), .int (τ 5 0), .int (τ 6 0), .int (nI 0), .int (nI (N + 1))]) (rest := []) (v := [.int (nI (fwF lt cu N N 0 (τ 5 0) (τ 6 0) 0 (N + 1)))]) ⟨hx, hb, hml, hown, hts⟩ hN hX (qX2_fewestFrom la g ad σ u τ N lt cu wr hPL N 0 0 (τ 5 0) (τ 6 0) 0 (N + 1) (Nat.zero_add _) (by decide) (Nat.le_refl _) (by omega)) gX2_fewestCleanings_X2_fewestFrom rfl rfl rfl (by decide +kernel) ⟨(by show N + 2 + 1 ≤ 9; omega), (by show 8 + (10 + 11) + (29 * N + 44) ≤ 247; omega)⟩ rfl hl.1 rfl (Nat.le_of_ble_eq_true rfl) dX2_fewestCleanings_18 ⟨Nat.zero_le _, Nat.zero_le _⟩ rfl ?_
  exact W.iret (v := (nI (fwF lt cu N N 0 (τ 5 0) (τ 6 0) 0 (N + 1)))) hx hb hr (fun t ht9 hW => ⟨congrArg (fun z => Outcome.returned (some (Value.int z))) rfl, ht9⟩) (fun _ h => nomatch h) dX2_fewestCleanings_21
set_option maxHeartbeats 4000000 in
set_option maxRecDepth 100000 in
theorem qX2_fewestBeginningWith (la : Launch) (g : EG) (ad : Nat → Nat → Nat) (σ : Sg) (u : Nat → Int64) (τ : Sg) (N : Nat) (lt cu : Nat → Int32) (wr : Nat → Nat) (hPL : PL τ N lt cu wr) (j : Nat) (hj : j < N) (b9 : Nat) (hb9 : b9 ≤ 100) : Met la yX2_fewestBeginningWith wsX2_fewestBeginningWith ({ frames := 9, cells := 0, slots := 0, locals := 247 } : Room) (va_Pc [.ref (ad 7 0), .int (nI j), .int (nI b9)] (fun U => XR g ad σ u τ U.heap ∧ KN g U)) (QR (.returned (some (.int (nI (bgF lt cu N (τ 5 0) (τ 6 0) j b9)))))) 0 0 (fun _ => False) := by
  refine Met.ofW (cc := cX2_fewestBeginningWith) (maxL := 5) (ret := (some .int)) (by decide) rfl ?_
  intro p e s m args below meth c s₁ B hml hv
  obtain ⟨rfl, hX, hN⟩ := hv
  have hK := hN.1
  have hN6 := hPL.1.1
  have hx := B.exec
  have hb := B.bytes
  have hr := B.returns
  have hts := atoms_spec (ws := wsX2_fewestBeginningWith) B.pre
  have hown : s.vm.findClass RX2 = some m.cls := findClass_of_methodNamed B.named
  have hlocks := B.notSynchronized
  have hinX2 : ∀ w ∈ wsX20, w ∈ wsX2_fewestBeginningWith := by decide +kernel
  have lk15 := hts (.fieldLink RX2 15 "DyehouseLedger$Plan" "lights" "[I") (by decide +kernel)
  have lk33 := hts (.fieldLink RX2 33 "DyehouseLedger$Plan" "lightAtFirst" "I") (by decide +kernel)
  have lk39 := hts (.fieldLink RX2 39 "DyehouseLedger$Plan" "onlyCustomerAtFirst" "I") (by decide +kernel)
  have hl := lv_entry ([.ref (ad 7 0), .int (nI j), .int (nI b9)]) (n := 5) (Nat.le_of_ble_eq_true rfl)
  rw [lg_entry_eq]
  generalize (lg_sl ([.ref (ad 7 0), .int (nI j), .int (nI b9)]) ++ List.replicate (5 - (lg_sl ([.ref (ad 7 0), .int (nI j), .int (nI b9)])).length) Slot.unset).toArray = ls at hl ⊢
  have hl : lv_has ls 5 [(0, .ref (ad 7 0)), (1, .int (nI j)), (2, .int (nI b9))] := hl
  refine lv_aload_n hx hb dX2_fewestBeginningWith_0 rfl (lv_at hl 0 rfl) ?_
  refine lv_iload_n hx hb dX2_fewestBeginningWith_1 rfl (lv_at hl 1 rfl) ?_
  refine lv_aload_n hx hb dX2_fewestBeginningWith_2 rfl (lv_at hl 0 rfl) ?_
  refine x_get (K := 7) (i := 0) (v := .int (τ 5 0)) hx hb hts hinX2 hown hK hX (show 0 < 1 from Nat.zero_lt_one) 5 rfl rfl (by decide) rfl lk33 rfl dX2_fewestBeginningWith_3 ?_
  refine lv_aload_n hx hb dX2_fewestBeginningWith_6 rfl (lv_at hl 0 rfl) ?_
  refine x_get (K := 7) (i := 0) (v := .int (τ 6 0)) hx hb hts hinX2 hown hK hX (show 0 < 1 from Nat.zero_lt_one) 6 rfl rfl (by decide) rfl lk39 rfl dX2_fewestBeginningWith_7 ?_
  refine xn_ro (n := 3) (K := 7) (i := 0) (As := [.int (nI j), .int (τ 5 0), .int (τ 6 0)]) (rest := []) (v := [.int (if ndC lt cu (τ 5 0) (τ 6 0) j then 1 else 0)]) ⟨hx, hb, hml, hown, hts⟩ hN hX Nat.zero_lt_one rfl rfl (qX2_mustBeCleaned la g ad σ u τ N lt cu wr hPL j hj (τ 5 0) (τ 6 0)) gX2_fewestBeginningWith_X2_mustBeCleaned rfl rfl rfl (by decide +kernel) ⟨Nat.le_of_ble_eq_true rfl, Nat.le_of_ble_eq_true rfl⟩ rfl hl.1 rfl (Nat.le_of_ble_eq_true rfl) dX2_fewestBeginningWith_10 ⟨Nat.zero_le _, Nat.zero_le _⟩ rfl ?_
  refine lv_istore_n (lv' := [(3, .int (if ndC lt cu (τ 5 0) (τ 6 0) j then 1 else 0)), (0, .ref (ad 7 0)), (1, .int (nI j)), (2, .int (nI b9))]) hx hb dX2_fewestBeginningWith_13 rfl hl (by decide) rfl (fun ls hl => ?_)
  refine lv_iload_n hx hb dX2_fewestBeginningWith_14 rfl (lv_at hl 0 rfl) ?_
  refine br_if_eq (c9 := ndC lt cu (τ 5 0) (τ 6 0) j) (tgt := 22) hx hb dX2_fewestBeginningWith_15 (by decide) (fun c_1 => ?_) (fun c_1 => ?_)
  · have hnd := c_1
    refine lv_aload_n hx hb dX2_fewestBeginningWith_22 rfl (lv_at hl 1 rfl) ?_
    refine x_get (K := 7) (i := 0) (v := .int (τ 6 0)) hx hb hts hinX2 hown hK hX (show 0 < 1 from Nat.zero_lt_one) 6 rfl rfl (by decide) rfl lk39 rfl dX2_fewestBeginningWith_23 ?_
    refine lv_istore (lv' := [(4, .int (τ 6 0)), (3, .int (if ndC lt cu (τ 5 0) (τ 6 0) j then 1 else 0)), (0, .ref (ad 7 0)), (1, .int (nI j)), (2, .int (nI b9))]) hx hb dX2_fewestBeginningWith_26 hl (by decide) rfl (fun ls hl => ?_)
    refine lv_aload_n hx hb dX2_fewestBeginningWith_28 rfl (lv_at hl 2 rfl) ?_
    refine lv_iconst (v := 1) hx hb dX2_fewestBeginningWith_29 (by decide) ?_
    refine lv_iconst (v := 1) hx hb dX2_fewestBeginningWith_30 (by decide) ?_
    refine lv_iload_n hx hb dX2_fewestBeginningWith_31 rfl (lv_at hl 3 rfl) ?_
    refine lv_ishl hx hb dX2_fewestBeginningWith_32 ?_
    refine lv_aload_n hx hb dX2_fewestBeginningWith_33 rfl (lv_at hl 2 rfl) ?_
    refine x_get (K := 7) (i := 0) (v := .ref (ad 9 0)) hx hb hts hinX2 hown hK hX (show 0 < 1 from Nat.zero_lt_one) 1 rfl rfl (by decide) rfl lk15 rfl dX2_fewestBeginningWith_34 ?_
    refine lv_iload_n hx hb dX2_fewestBeginningWith_37 rfl (lv_at hl 3 rfl) ?_
    refine x_iald (K := 9) (i := 0) (n := 6) (f := (τ 1)) (j := (nI j)) (x := (lt j)) hx hb hK hX Nat.zero_lt_one rfl (vin_nI (Nat.lt_of_lt_of_le hj hPL.1.1) (by decide)) ((congrArg (τ 1) (ti_nI (by omega))).trans (hPL.2 j hj).1) dX2_fewestBeginningWith_38 ?_
    refine lv_iload hx hb dX2_fewestBeginningWith_39 (lv_at hl 0 rfl) ?_
    refine lv_iload_n hx hb dX2_fewestBeginningWith_41 rfl (lv_at hl 1 rfl) ?_
    refine br_if_eq (c9 := ndC lt cu (τ 5 0) (τ 6 0) j) (tgt := 49) hx hb dX2_fewestBeginningWith_42 (by decide) (fun c_2 => ?_) (fun c_2 => ?_)
    · refine lv_iconst (v := 0) hx hb dX2_fewestBeginningWith_49 (by decide) ?_
      refine lv_iload_n hx hb dX2_fewestBeginningWith_50 rfl (lv_at hl 4 rfl) ?_
      rw [(bit_one j (by omega)).1]
      refine xsn_ro (n := 7) (As := [.ref (ad 7 0), .int (nI 1), .int (nI (0 ||| (1 <<< j))), .int (lt j), .int (τ 6 0), .int (nI 0), .int (nI b9)]) (rest := []) (v := [.int (nI (bgF lt cu N (τ 5 0) (τ 6 0) j b9))]) ⟨hx, hb, hml, hown, hts⟩ hN hX (qX2_fewestFrom la g ad σ u τ N lt cu wr hPL (N - 1) 1 (0 ||| (1 <<< j)) (lt j) (τ 6 0) 0 b9 (by omega) (bit_one j (by omega)).2 (by decide) hb9) gX2_fewestBeginningWith_X2_fewestFrom rfl rfl rfl (by decide +kernel) ⟨(by show (N - 1) + 2 + 1 ≤ 9; omega), (by show 8 + (10 + 11) + (29 * (N - 1) + 44) ≤ 247; omega)⟩ rfl hl.1 rfl (Nat.le_of_ble_eq_true rfl) dX2_fewestBeginningWith_51 ⟨Nat.zero_le _, Nat.zero_le _⟩ (congrArg (fun z => [Value.int z]) (congrArg nI (bg_c0 hnd))) ?_
      exact W.iret (v := (nI (bgF lt cu N (τ 5 0) (τ 6 0) j b9))) hx hb hr (fun t ht9 hW => ⟨congrArg (fun z => Outcome.returned (some (Value.int z))) rfl, ht9⟩) (fun _ h => nomatch h) dX2_fewestBeginningWith_54
    · exact absurd c_2 hnd
  · have hnd := c_1
    refine lv_iconst (v := (-1)) hx hb dX2_fewestBeginningWith_18 (by decide) ?_
    refine lv_goto (tgt := 26) hx hb dX2_fewestBeginningWith_19 (by decide) ?_
    refine lv_istore (lv' := [(4, .int (-1)), (3, .int (if ndC lt cu (τ 5 0) (τ 6 0) j then 1 else 0)), (0, .ref (ad 7 0)), (1, .int (nI j)), (2, .int (nI b9))]) hx hb dX2_fewestBeginningWith_26 hl (by decide) rfl (fun ls hl => ?_)
    refine lv_aload_n hx hb dX2_fewestBeginningWith_28 rfl (lv_at hl 2 rfl) ?_
    refine lv_iconst (v := 1) hx hb dX2_fewestBeginningWith_29 (by decide) ?_
    refine lv_iconst (v := 1) hx hb dX2_fewestBeginningWith_30 (by decide) ?_
    refine lv_iload_n hx hb dX2_fewestBeginningWith_31 rfl (lv_at hl 3 rfl) ?_
    refine lv_ishl hx hb dX2_fewestBeginningWith_32 ?_
    refine lv_aload_n hx hb dX2_fewestBeginningWith_33 rfl (lv_at hl 2 rfl) ?_
    refine x_get (K := 7) (i := 0) (v := .ref (ad 9 0)) hx hb hts hinX2 hown hK hX (show 0 < 1 from Nat.zero_lt_one) 1 rfl rfl (by decide) rfl lk15 rfl dX2_fewestBeginningWith_34 ?_
    refine lv_iload_n hx hb dX2_fewestBeginningWith_37 rfl (lv_at hl 3 rfl) ?_
    refine x_iald (K := 9) (i := 0) (n := 6) (f := (τ 1)) (j := (nI j)) (x := (lt j)) hx hb hK hX Nat.zero_lt_one rfl (vin_nI (Nat.lt_of_lt_of_le hj hPL.1.1) (by decide)) ((congrArg (τ 1) (ti_nI (by omega))).trans (hPL.2 j hj).1) dX2_fewestBeginningWith_38 ?_
    refine lv_iload hx hb dX2_fewestBeginningWith_39 (lv_at hl 0 rfl) ?_
    refine lv_iload_n hx hb dX2_fewestBeginningWith_41 rfl (lv_at hl 1 rfl) ?_
    refine br_if_eq (c9 := ndC lt cu (τ 5 0) (τ 6 0) j) (tgt := 49) hx hb dX2_fewestBeginningWith_42 (by decide) (fun c_3 => ?_) (fun c_3 => ?_)
    · exact absurd hnd c_3
    · refine lv_iconst (v := 1) hx hb dX2_fewestBeginningWith_45 (by decide) ?_
      refine lv_goto (tgt := 50) hx hb dX2_fewestBeginningWith_46 (by decide) ?_
      refine lv_iload_n hx hb dX2_fewestBeginningWith_50 rfl (lv_at hl 4 rfl) ?_
      rw [(bit_one j (by omega)).1]
      refine xsn_ro (n := 7) (As := [.ref (ad 7 0), .int (nI 1), .int (nI (0 ||| (1 <<< j))), .int (lt j), .int (-1), .int (nI 1), .int (nI b9)]) (rest := []) (v := [.int (nI (bgF lt cu N (τ 5 0) (τ 6 0) j b9))]) ⟨hx, hb, hml, hown, hts⟩ hN hX (qX2_fewestFrom la g ad σ u τ N lt cu wr hPL (N - 1) 1 (0 ||| (1 <<< j)) (lt j) (-1) 1 b9 (by omega) (bit_one j (by omega)).2 (by decide) hb9) gX2_fewestBeginningWith_X2_fewestFrom rfl rfl rfl (by decide +kernel) ⟨(by show (N - 1) + 2 + 1 ≤ 9; omega), (by show 8 + (10 + 11) + (29 * (N - 1) + 44) ≤ 247; omega)⟩ rfl hl.1 rfl (Nat.le_of_ble_eq_true rfl) dX2_fewestBeginningWith_51 ⟨Nat.zero_le _, Nat.zero_le _⟩ (congrArg (fun z => [Value.int z]) (congrArg nI (bg_c1 hnd))) ?_
      exact W.iret (v := (nI (bgF lt cu N (τ 5 0) (τ 6 0) j b9))) hx hb hr (fun t ht9 hW => ⟨congrArg (fun z => Outcome.returned (some (Value.int z))) rfl, ht9⟩) (fun _ h => nomatch h) dX2_fewestBeginningWith_54
set_option maxHeartbeats 4000000 in
set_option maxRecDepth 100000 in
theorem qX2_firstOfBestOrder (la : Launch) (g : EG) (ad : Nat → Nat → Nat) (σ : Sg) (u : Nat → Int64) (τ : Sg) (N : Nat) (lt cu : Nat → Int32) (wr : Nat → Nat) (hPL : PL τ N lt cu wr) (h0 : 0 < N) : Met la yX2_firstOfBestOrder wsX2_firstOfBestOrder ({ frames := 10, cells := 0, slots := 0, locals := 271 } : Room) (va_Pc [.ref (ad 7 0)] (fun U => XR g ad σ u τ U.heap ∧ KN g U)) (QR (.returned (some (.int (τ 0 (bsL (costP lt cu wr (τ 5 0) (τ 6 0)) (ords N N 0)).2))))) 0 0 (fun _ => False) := by
  refine Met.ofW (cc := cX2_firstOfBestOrder) (maxL := 3) (ret := (some .int)) (by decide) rfl ?_
  intro p e s m args below meth c s₁ B hml hv
  obtain ⟨rfl, hX, hN⟩ := hv
  have hK := hN.1
  have hN6 := hPL.1.1
  have hx := B.exec
  have hb := B.bytes
  have hr := B.returns
  have hts := atoms_spec (ws := wsX2_firstOfBestOrder) B.pre
  have hown : s.vm.findClass RX2 = some m.cls := findClass_of_methodNamed B.named
  have hlocks := B.notSynchronized
  have hinX2 : ∀ w ∈ wsX20, w ∈ wsX2_firstOfBestOrder := by decide +kernel
  have lk24 := hts (.fieldLink RX2 24 "DyehouseLedger$Plan" "size" "I") (by decide +kernel)
  have lk9 := hts (.fieldLink RX2 9 "DyehouseLedger$Plan" "numbers" "[I") (by decide +kernel)
  have hl := lv_entry ([.ref (ad 7 0)]) (n := 3) (Nat.le_of_ble_eq_true rfl)
  rw [lg_entry_eq]
  generalize (lg_sl ([.ref (ad 7 0)]) ++ List.replicate (3 - (lg_sl ([.ref (ad 7 0)])).length) Slot.unset).toArray = ls at hl ⊢
  have hl : lv_has ls 3 [(0, .ref (ad 7 0))] := hl
  have hM9 : (fwF lt cu N N 0 (τ 5 0) (τ 6 0) 0 (N + 1)) ≤ N + 1 := fw_le lt cu N
  have hB9 : ∀ j, (bgF lt cu N (τ 5 0) (τ 6 0) j ((fwF lt cu N N 0 (τ 5 0) (τ 6 0) 0 (N + 1)) + 1)) ≤ (fwF lt cu N N 0 (τ 5 0) (τ 6 0) 0 (N + 1)) + 1 := fun j => mins_le _ _
  refine lv_aload_n hx hb dX2_firstOfBestOrder_0 rfl (lv_at hl 0 rfl) ?_
  refine xn_ro (n := 0) (K := 7) (i := 0) (As := []) (rest := []) (v := [.int (nI (fwF lt cu N N 0 (τ 5 0) (τ 6 0) 0 (N + 1)))]) ⟨hx, hb, hml, hown, hts⟩ hN hX Nat.zero_lt_one rfl rfl (qX2_fewestCleanings la g ad σ u τ N lt cu wr hPL) gX2_firstOfBestOrder_X2_fewestCleanings rfl rfl rfl (by decide +kernel) ⟨Nat.le_of_ble_eq_true rfl, Nat.le_of_ble_eq_true rfl⟩ rfl hl.1 rfl (Nat.le_of_ble_eq_true rfl) dX2_firstOfBestOrder_1 ⟨Nat.zero_le _, Nat.zero_le _⟩ rfl ?_
  refine lv_istore_n (lv' := [(1, .int (nI (fwF lt cu N N 0 (τ 5 0) (τ 6 0) 0 (N + 1)))), (0, .ref (ad 7 0))]) hx hb dX2_firstOfBestOrder_4 rfl hl (by decide) rfl (fun ls hl => ?_)
  refine lv_iconst (v := 0) hx hb dX2_firstOfBestOrder_5 (by decide) ?_
  refine lv_istore_n (lv' := [(2, .int 0), (1, .int (nI (fwF lt cu N N 0 (τ 5 0) (τ 6 0) 0 (N + 1)))), (0, .ref (ad 7 0))]) hx hb dX2_firstOfBestOrder_6 rfl hl (by decide) rfl (fun ls hl => ?_)
  have lp7 : ∀ (n9 : Nat) (j : Nat), (j < N) → (∀ i, i < j → (fwF lt cu N N 0 (τ 5 0) (τ 6 0) 0 (N + 1)) < bgF lt cu N (τ 5 0) (τ 6 0) i ((fwF lt cu N N 0 (τ 5 0) (τ 6 0) 0 (N + 1)) + 1)) → N - j < n9 → ∀ (ls : Array Slot), lv_has ls 3 [(0, .ref (ad 7 0)), (1, .int (nI (fwF lt cu N N 0 (τ 5 0) (τ 6 0) 0 (N + 1)))), (2, .int (nI j))] → W p la e ({ frames := 10, cells := 0, slots := 0, locals := 271 } : Room) s m ([.ref (ad 7 0)] : List Value).toArray below meth c s.heap [] 0 0 (MQ below (QR (.returned (some (.int (τ 0 (bsL (costP lt cu wr (τ 5 0) (τ 6 0)) (ords N N 0)).2))))) ([.ref (ad 7 0)] : List Value).toArray s 0 0 (fun _ => False)) (F0 m 7 ls []) := by
    intro n9_7
    induction n9_7 with
    | zero => intro j _ _ h9 ; exact absurd h9 (Nat.not_lt_zero _)
    | succ n9_7 ih_7 =>
      intro j hj hT h9 ls hl
      have hBj := hB9 j
      refine lv_iload_n hx hb dX2_firstOfBestOrder_7 rfl (lv_at hl 2 rfl) ?_
      refine lv_aload_n hx hb dX2_firstOfBestOrder_8 rfl (lv_at hl 0 rfl) ?_
      refine x_get (K := 7) (i := 0) (v := .int (nI N)) hx hb hts hinX2 hown hK hX Nat.zero_lt_one 4 rfl rfl (by decide) rfl lk24 (congrArg (fun z => some (Value.int z)) hPL.1.2) dX2_firstOfBestOrder_9 ?_
      refine lv_iconst (v := 1) hx hb dX2_firstOfBestOrder_12 (by decide) ?_
      refine lv_isub hx hb dX2_firstOfBestOrder_13 ?_
      refine lv_icmp_ge (tgt := 40) hx hb dX2_firstOfBestOrder_14 (by decide) (fun c_1 => ?_) (fun c_1 => ?_)
      · replace c_1 := Int32.not_lt.mpr c_1
        have hjn : ¬ j < N - 1 := fun q9 => c_1 (by rw [← isx_1 h0]; exact (nI_ltI (by omega) (by omega)).mpr q9)
        have hz9 : j = N - 1 ∨ ∃ p, p ∈ ords N (N - 1) (0 ||| (1 <<< j)) ∧ clC lt cu (τ 5 0) (τ 6 0) (j :: p) ≤ (fwF lt cu N N 0 (τ 5 0) (τ 6 0) 0 (N + 1)) := Or.inl (by omega)
        refine lv_aload_n hx hb dX2_firstOfBestOrder_40 rfl (lv_at hl 0 rfl) ?_
        refine x_get (K := 7) (i := 0) (v := .ref (ad 8 0)) hx hb hts hinX2 hown hK hX (show 0 < 1 from Nat.zero_lt_one) 0 rfl rfl (by decide) rfl lk9 rfl dX2_firstOfBestOrder_41 ?_
        refine lv_iload_n hx hb dX2_firstOfBestOrder_44 rfl (lv_at hl 2 rfl) ?_
        refine x_iald (K := 8) (i := 0) (n := 6) (f := (τ 0)) (j := (nI j)) (x := (τ 0 j)) hx hb hK hX (show 0 < 1 from Nat.zero_lt_one) rfl (vin_nI (by omega) (by decide)) (congrArg (τ 0) (ti_nI (by omega))) dX2_firstOfBestOrder_45 ?_
        exact W.iret (v := (τ 0 j)) hx hb hr (fun t ht9 hW => ⟨congrArg (fun z => Outcome.returned (some (Value.int z))) (congrArg (τ 0) (first_eq lt cu wr hN6 h0 _ _ hj (fun i hi => bg_gt (hT i hi)) hz9).symm), ht9⟩) (fun _ h => nomatch h) dX2_firstOfBestOrder_46
      · replace c_1 := Int32.not_le.mp c_1
        have hjn : j < N - 1 := (nI_ltI (by omega) (by omega)).mp (by rw [isx_1 h0]; exact c_1)
        refine lv_iload_n hx hb dX2_firstOfBestOrder_17 rfl (lv_at hl 2 rfl) ?_
        refine lv_iconst (v := 5) hx hb dX2_firstOfBestOrder_18 (by decide) ?_
        refine lv_icmp_ge (tgt := 40) hx hb dX2_firstOfBestOrder_19 (by decide) (fun c_2 => ?_) (fun c_2 => ?_)
        · replace c_2 := Int32.not_lt.mpr c_2
          exact absurd (show nI j < nI 5 from (nI_ltI (by omega) (by decide)).mpr (by omega)) c_2
        · replace c_2 := Int32.not_le.mp c_2
          refine lv_aload_n hx hb dX2_firstOfBestOrder_22 rfl (lv_at hl 0 rfl) ?_
          refine lv_iload_n hx hb dX2_firstOfBestOrder_23 rfl (lv_at hl 2 rfl) ?_
          refine lv_iload_n hx hb dX2_firstOfBestOrder_24 rfl (lv_at hl 1 rfl) ?_
          refine lv_iconst (v := 1) hx hb dX2_firstOfBestOrder_25 (by decide) ?_
          refine lv_iadd hx hb dX2_firstOfBestOrder_26 ?_
          rw [nI_1 (fwF lt cu N N 0 (τ 5 0) (τ 6 0) 0 (N + 1))]
          refine xn_ro (n := 2) (K := 7) (i := 0) (As := [.int (nI j), .int (nI ((fwF lt cu N N 0 (τ 5 0) (τ 6 0) 0 (N + 1)) + 1))]) (rest := []) (v := [.int (nI (bgF lt cu N (τ 5 0) (τ 6 0) j ((fwF lt cu N N 0 (τ 5 0) (τ 6 0) 0 (N + 1)) + 1)))]) ⟨hx, hb, hml, hown, hts⟩ hN hX Nat.zero_lt_one rfl rfl (qX2_fewestBeginningWith la g ad σ u τ N lt cu wr hPL j hj ((fwF lt cu N N 0 (τ 5 0) (τ 6 0) 0 (N + 1)) + 1) (by omega)) gX2_firstOfBestOrder_X2_fewestBeginningWith rfl rfl rfl (by decide +kernel) ⟨Nat.le_of_ble_eq_true rfl, Nat.le_of_ble_eq_true rfl⟩ rfl hl.1 rfl (Nat.le_of_ble_eq_true rfl) dX2_firstOfBestOrder_27 ⟨Nat.zero_le _, Nat.zero_le _⟩ rfl ?_
          refine lv_iload_n hx hb dX2_firstOfBestOrder_30 rfl (lv_at hl 1 rfl) ?_
          refine lv_icmp_le (tgt := 40) hx hb dX2_firstOfBestOrder_31 (by decide) (fun c_3 => ?_) (fun c_3 => ?_)
          · replace c_3 := Int32.not_lt.mpr c_3
            have hz9 : j = N - 1 ∨ ∃ p, p ∈ ords N (N - 1) (0 ||| (1 <<< j)) ∧ clC lt cu (τ 5 0) (τ 6 0) (j :: p) ≤ (fwF lt cu N N 0 (τ 5 0) (τ 6 0) 0 (N + 1)) := Or.inr (bg_le (fun q9 => c_3 ((nI_ltI (by omega) (by omega)).mpr q9)))
            refine lv_aload_n hx hb dX2_firstOfBestOrder_40 rfl (lv_at hl 0 rfl) ?_
            refine x_get (K := 7) (i := 0) (v := .ref (ad 8 0)) hx hb hts hinX2 hown hK hX (show 0 < 1 from Nat.zero_lt_one) 0 rfl rfl (by decide) rfl lk9 rfl dX2_firstOfBestOrder_41 ?_
            refine lv_iload_n hx hb dX2_firstOfBestOrder_44 rfl (lv_at hl 2 rfl) ?_
            refine x_iald (K := 8) (i := 0) (n := 6) (f := (τ 0)) (j := (nI j)) (x := (τ 0 j)) hx hb hK hX (show 0 < 1 from Nat.zero_lt_one) rfl (vin_nI (by omega) (by decide)) (congrArg (τ 0) (ti_nI (by omega))) dX2_firstOfBestOrder_45 ?_
            exact W.iret (v := (τ 0 j)) hx hb hr (fun t ht9 hW => ⟨congrArg (fun z => Outcome.returned (some (Value.int z))) (congrArg (τ 0) (first_eq lt cu wr hN6 h0 _ _ hj (fun i hi => bg_gt (hT i hi)) hz9).symm), ht9⟩) (fun _ h => nomatch h) dX2_firstOfBestOrder_46
          · replace c_3 := Int32.not_le.mp c_3
            have hgt : (fwF lt cu N N 0 (τ 5 0) (τ 6 0) 0 (N + 1)) < (bgF lt cu N (τ 5 0) (τ 6 0) j ((fwF lt cu N N 0 (τ 5 0) (τ 6 0) 0 (N + 1)) + 1)) := (nI_ltI (by omega) (by omega)).mp c_3
            refine lv_iinc (v := ((nI j) + 1)) (lv' := [(2, .int ((nI j) + 1)), (0, .ref (ad 7 0)), (1, .int (nI (fwF lt cu N N 0 (τ 5 0) (τ 6 0) 0 (N + 1))))]) hx hb dX2_firstOfBestOrder_34 hl (k := 2) rfl rfl (by decide) rfl (fun ls hl => ?_)
            refine lv_goto (tgt := 7) hx hb dX2_firstOfBestOrder_37 (by decide) ?_
            have e_4 : ((nI (j + 1)) : Int32) = ((nI j) + 1) := (nI_1 j).symm
            have hl2 : lv_has ls 3 [(0, .ref (ad 7 0)), (1, .int (nI (fwF lt cu N N 0 (τ 5 0) (τ 6 0) 0 (N + 1)))), (2, .int (nI (j + 1)))] := by
              rw [e_4]
              exact lv_sub hl [1, 2, 0] rfl
            exact ih_7 (j + 1) (by omega) (fun i hi => (Nat.lt_or_ge i j).elim (hT i) (fun q => (show j = i from by omega) ▸ hgt)) (by omega) ls hl2
  have e_5 : ((nI (0)) : Int32) = 0 := (by first | rfl | (simp [-Int32.not_lt, -Int32.not_le, okL, okV, okO, okR, okD, isP, shP]; done) | (simp_all [-Int32.not_lt, -Int32.not_le, okL, okV, okO, okR, okD, isP, shP]; done))
  have hl2 : lv_has ls 3 [(0, .ref (ad 7 0)), (1, .int (nI (fwF lt cu N N 0 (τ 5 0) (τ 6 0) 0 (N + 1)))), (2, .int (nI (0)))] := by
    rw [e_5]
    exact lv_sub hl [2, 1, 0] rfl
  exact lp7 (N - 0 + 1) (0) h0 (fun _ h => absurd h (Nat.not_lt_zero _)) (Nat.lt_succ_self _) ls hl2
set_option maxHeartbeats 4000000 in
set_option maxRecDepth 100000 in
theorem qX2_leastOfAllOrders (la : Launch) (g : EG) (ad : Nat → Nat → Nat) (σ : Sg) (u : Nat → Int64) (τ : Sg) (N : Nat) (lt cu : Nat → Int32) (wr : Nat → Nat) (hPL : PL τ N lt cu wr) : Met la yX2_leastOfAllOrders wsX2_leastOfAllOrders ({ frames := 9, cells := 0, slots := 0, locals := 247 } : Room) (va_Pc [.ref (ad 7 0)] (fun U => XR g ad σ u τ U.heap ∧ KN g U)) (QR (.returned (some (.int (nI (laF lt cu wr N N 0 (τ 5 0) (τ 6 0) 0)))))) 0 0 (fun _ => False) := by
  refine Met.ofW (cc := cX2_leastOfAllOrders) (maxL := 1) (ret := (some .int)) (by decide) rfl ?_
  intro p e s m args below meth c s₁ B hml hv
  obtain ⟨rfl, hX, hN⟩ := hv
  have hK := hN.1
  have hN6 := hPL.1.1
  have hx := B.exec
  have hb := B.bytes
  have hr := B.returns
  have hts := atoms_spec (ws := wsX2_leastOfAllOrders) B.pre
  have hown : s.vm.findClass RX2 = some m.cls := findClass_of_methodNamed B.named
  have hlocks := B.notSynchronized
  have hinX2 : ∀ w ∈ wsX20, w ∈ wsX2_leastOfAllOrders := by decide +kernel
  have lk33 := hts (.fieldLink RX2 33 "DyehouseLedger$Plan" "lightAtFirst" "I") (by decide +kernel)
  have lk39 := hts (.fieldLink RX2 39 "DyehouseLedger$Plan" "onlyCustomerAtFirst" "I") (by decide +kernel)
  have hl := lv_entry ([.ref (ad 7 0)]) (n := 1) (Nat.le_of_ble_eq_true rfl)
  rw [lg_entry_eq]
  generalize (lg_sl ([.ref (ad 7 0)]) ++ List.replicate (1 - (lg_sl ([.ref (ad 7 0)])).length) Slot.unset).toArray = ls at hl ⊢
  have hl : lv_has ls 1 [(0, .ref (ad 7 0))] := hl
  refine lv_aload_n hx hb dX2_leastOfAllOrders_0 rfl (lv_at hl 0 rfl) ?_
  refine lv_iconst (v := 0) hx hb dX2_leastOfAllOrders_1 (by decide) ?_
  refine lv_iconst (v := 0) hx hb dX2_leastOfAllOrders_2 (by decide) ?_
  refine lv_aload_n hx hb dX2_leastOfAllOrders_3 rfl (lv_at hl 0 rfl) ?_
  refine x_get (K := 7) (i := 0) (v := .int (τ 5 0)) hx hb hts hinX2 hown hK hX (show 0 < 1 from Nat.zero_lt_one) 5 rfl rfl (by decide) rfl lk33 rfl dX2_leastOfAllOrders_4 ?_
  refine lv_aload_n hx hb dX2_leastOfAllOrders_7 rfl (lv_at hl 0 rfl) ?_
  refine x_get (K := 7) (i := 0) (v := .int (τ 6 0)) hx hb hts hinX2 hown hK hX (show 0 < 1 from Nat.zero_lt_one) 6 rfl rfl (by decide) rfl lk39 rfl dX2_leastOfAllOrders_8 ?_
  refine lv_iconst (v := 0) hx hb dX2_leastOfAllOrders_11 (by decide) ?_
  refine xsn_ro (n := 6) (As := [.ref (ad 7 0), .int (nI 0), .int (nI 0), .int (τ 5 0), .int (τ 6 0), .int (nI 0)]) (rest := []) (v := [.int (nI (laF lt cu wr N N 0 (τ 5 0) (τ 6 0) 0))]) ⟨hx, hb, hml, hown, hts⟩ hN hX (qX2_leastFrom la g ad σ u τ N lt cu wr hPL N 0 0 (τ 5 0) (τ 6 0) 0 (Nat.zero_add _) (by decide) (Nat.zero_le _)) gX2_leastOfAllOrders_X2_leastFrom rfl rfl rfl (by decide +kernel) ⟨(by show N + 2 + 1 ≤ 9; omega), (by show 8 + (10 + 11) + (29 * N + 44) ≤ 247; omega)⟩ rfl hl.1 rfl (Nat.le_of_ble_eq_true rfl) dX2_leastOfAllOrders_12 ⟨Nat.zero_le _, Nat.zero_le _⟩ rfl ?_
  exact W.iret (v := (nI (laF lt cu wr N N 0 (τ 5 0) (τ 6 0) 0))) hx hb hr (fun t ht9 hW => ⟨congrArg (fun z => Outcome.returned (some (Value.int z))) rfl, ht9⟩) (fun _ h => nomatch h) dX2_leastOfAllOrders_15
set_option maxHeartbeats 4000000 in
set_option maxRecDepth 100000 in
theorem qX2_dyeingHours (la : Launch) (g : EG) (ad : Nat → Nat → Nat) (σ : Sg) (u : Nat → Int64) (τ : Sg) (N : Nat) (lt cu : Nat → Int32) (wr : Nat → Nat) (hPL : PL τ N lt cu wr) : Met la yX2_dyeingHours wsX2_dyeingHours ({ frames := 0, cells := 0, slots := 0, locals := 0 } : Room) (va_Pc [.ref (ad 7 0)] (fun U => XR g ad σ u τ U.heap ∧ KN g U)) (QR (.returned (some (.int (nI (hsm wr (List.range N))))))) 0 0 (fun _ => False) := by
  refine Met.ofW (cc := cX2_dyeingHours) (maxL := 3) (ret := (some .int)) (by decide) rfl ?_
  intro p e s m args below meth c s₁ B hml hv
  obtain ⟨rfl, hX, hN⟩ := hv
  have hK := hN.1
  have hN6 := hPL.1.1
  have hx := B.exec
  have hb := B.bytes
  have hr := B.returns
  have hts := atoms_spec (ws := wsX2_dyeingHours) B.pre
  have hown : s.vm.findClass RX2 = some m.cls := findClass_of_methodNamed B.named
  have hlocks := B.notSynchronized
  have hinX2 : ∀ w ∈ wsX20, w ∈ wsX2_dyeingHours := by decide +kernel
  have lk21 := hts (.fieldLink RX2 21 "DyehouseLedger$Plan" "hours" "[I") (by decide +kernel)
  have lk24 := hts (.fieldLink RX2 24 "DyehouseLedger$Plan" "size" "I") (by decide +kernel)
  have hl := lv_entry ([.ref (ad 7 0)]) (n := 3) (Nat.le_of_ble_eq_true rfl)
  rw [lg_entry_eq]
  generalize (lg_sl ([.ref (ad 7 0)]) ++ List.replicate (3 - (lg_sl ([.ref (ad 7 0)])).length) Slot.unset).toArray = ls at hl ⊢
  have hl : lv_has ls 3 [(0, .ref (ad 7 0))] := hl
  refine lv_iconst (v := 0) hx hb dX2_dyeingHours_0 (by decide) ?_
  refine lv_istore_n (lv' := [(1, .int 0), (0, .ref (ad 7 0))]) hx hb dX2_dyeingHours_1 rfl hl (by decide) rfl (fun ls hl => ?_)
  refine lv_iconst (v := 0) hx hb dX2_dyeingHours_2 (by decide) ?_
  refine lv_istore_n (lv' := [(2, .int 0), (1, .int 0), (0, .ref (ad 7 0))]) hx hb dX2_dyeingHours_3 rfl hl (by decide) rfl (fun ls hl => ?_)
  have lp4 : ∀ (n9 : Nat) (j : Nat), (j ≤ N) → N - j < n9 → ∀ (ls : Array Slot), lv_has ls 3 [(0, .ref (ad 7 0)), (1, .int (nI (hsm wr (List.range j)))), (2, .int (nI j))] → W p la e ({ frames := 0, cells := 0, slots := 0, locals := 0 } : Room) s m ([.ref (ad 7 0)] : List Value).toArray below meth c s.heap [] 0 0 (MQ below (QR (.returned (some (.int (nI (hsm wr (List.range N))))))) ([.ref (ad 7 0)] : List Value).toArray s 0 0 (fun _ => False)) (F0 m 4 ls []) := by
    intro n9_4
    induction n9_4 with
    | zero => intro j _ h9 ; exact absurd h9 (Nat.not_lt_zero _)
    | succ n9_4 ih_4 =>
      intro j hj h9 ls hl
      refine lv_iload_n hx hb dX2_dyeingHours_4 rfl (lv_at hl 2 rfl) ?_
      refine lv_aload_n hx hb dX2_dyeingHours_5 rfl (lv_at hl 0 rfl) ?_
      refine x_get (K := 7) (i := 0) (v := .int (nI N)) hx hb hts hinX2 hown hK hX Nat.zero_lt_one 4 rfl rfl (by decide) rfl lk24 (congrArg (fun z => some (Value.int z)) hPL.1.2) dX2_dyeingHours_6 ?_
      refine lv_icmp_ge (tgt := 33) hx hb dX2_dyeingHours_9 (by decide) (fun c_1 => ?_) (fun c_1 => ?_)
      · replace c_1 := Int32.not_lt.mpr c_1
        obtain rfl : N = j := by
          have q9 := mt (nI_ltI (a := j) (b := N) (by omega) (by omega)).mpr c_1
          omega
        refine lv_iload_n hx hb dX2_dyeingHours_33 rfl (lv_at hl 1 rfl) ?_
        exact W.iret (v := (nI (hsm wr (List.range N)))) hx hb hr (fun t ht9 hW => ⟨congrArg (fun z => Outcome.returned (some (Value.int z))) rfl, ht9⟩) (fun _ h => nomatch h) dX2_dyeingHours_34
      · replace c_1 := Int32.not_le.mp c_1
        have hj1 : j < N := (nI_ltI (by omega) (by omega)).mp c_1
        refine lv_iload_n hx hb dX2_dyeingHours_12 rfl (lv_at hl 2 rfl) ?_
        refine lv_bipush (v := 6) hx hb dX2_dyeingHours_13 (by decide) ?_
        refine lv_icmp_ge (tgt := 33) hx hb dX2_dyeingHours_15 (by decide) (fun c_2 => ?_) (fun c_2 => ?_)
        · replace c_2 := Int32.not_lt.mpr c_2
          exact absurd (show nI j < nI 6 from (nI_ltI (by omega) (by decide)).mpr (by omega)) c_2
        · replace c_2 := Int32.not_le.mp c_2
          refine lv_iload_n hx hb dX2_dyeingHours_18 rfl (lv_at hl 1 rfl) ?_
          refine lv_aload_n hx hb dX2_dyeingHours_19 rfl (lv_at hl 0 rfl) ?_
          refine x_get (K := 7) (i := 0) (v := .ref (ad 11 0)) hx hb hts hinX2 hown hK hX (show 0 < 1 from Nat.zero_lt_one) 3 rfl rfl (by decide) rfl lk21 rfl dX2_dyeingHours_20 ?_
          refine lv_iload_n hx hb dX2_dyeingHours_23 rfl (lv_at hl 2 rfl) ?_
          refine x_iald (K := 11) (i := 0) (n := 6) (f := (τ 3)) (j := (nI j)) (x := (nI (wr j))) hx hb hK hX Nat.zero_lt_one rfl (vin_nI (Nat.lt_of_lt_of_le hj1 hPL.1.1) (by decide)) ((congrArg (τ 3) (ti_nI (by omega))).trans (hPL.2 j hj1).2.2.1) dX2_dyeingHours_24 ?_
          refine lv_iadd hx hb dX2_dyeingHours_25 ?_
          refine lv_istore_n (lv' := [(1, .int ((nI (hsm wr (List.range j))) + (nI (wr j)))), (0, .ref (ad 7 0)), (2, .int (nI j))]) hx hb dX2_dyeingHours_26 rfl hl (by decide) rfl (fun ls hl => ?_)
          refine lv_iinc (v := ((nI j) + 1)) (lv' := [(2, .int ((nI j) + 1)), (1, .int ((nI (hsm wr (List.range j))) + (nI (wr j)))), (0, .ref (ad 7 0))]) hx hb dX2_dyeingHours_27 hl (k := 2) rfl rfl (by decide) rfl (fun ls hl => ?_)
          refine lv_goto (tgt := 4) hx hb dX2_dyeingHours_30 (by decide) ?_
          have e_3 : ((nI (hsm wr (List.range (j + 1)))) : Int32) = ((nI (hsm wr (List.range j))) + (nI (wr j))) := ((congrArg nI (hsm_s wr j)).trans (nI_add _ _).symm)
          have e_4 : ((nI (j + 1)) : Int32) = ((nI j) + 1) := (nI_1 j).symm
          have hl2 : lv_has ls 3 [(0, .ref (ad 7 0)), (1, .int (nI (hsm wr (List.range (j + 1))))), (2, .int (nI (j + 1)))] := by
            rw [e_3, e_4]
            exact lv_sub hl [2, 1, 0] rfl
          exact ih_4 (j + 1) (by omega) (by omega) ls hl2
  have e_5 : ((nI (hsm wr (List.range (0)))) : Int32) = 0 := rfl
  have e_6 : ((nI (0)) : Int32) = 0 := (by first | rfl | (simp [-Int32.not_lt, -Int32.not_le, okL, okV, okO, okR, okD, isP, shP]; done) | (simp_all [-Int32.not_lt, -Int32.not_le, okL, okV, okO, okR, okD, isP, shP]; done))
  have hl2 : lv_has ls 3 [(0, .ref (ad 7 0)), (1, .int (nI (hsm wr (List.range (0))))), (2, .int (nI (0)))] := by
    rw [e_5, e_6]
    exact lv_sub hl [2, 1, 0] rfl
  exact lp4 (N - 0 + 1) (0) (Nat.zero_le _) (Nat.lt_succ_self _) ls hl2
