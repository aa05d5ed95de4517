set_option maxHeartbeats 4000000 in
set_option maxRecDepth 100000 in
theorem qX6_verdictOn (la : Launch) (g : EG) (ad : Nat → Nat → Nat) (σ : Sg) (u : Nat → Int64) (τ : Sg) (hI : INV σ) (lo : Nat) (hA : XA lo ad σ) (i : Nat) (hi : i < nL σ) : Met la yX6_verdictOn wsX6_verdictOn ({ frames := 3, cells := 0, slots := 0, locals := 77 } : Room) (va_Pc [.ref (ad 0 0), .ref (ad 16 i)] (fun U => XR g ad σ u τ U.heap ∧ KK g U)) (QR (.returned (some (.int (f_judged σ (nI i)))))) 0 0 (fun _ => False) := by
  refine Met.ofW (cc := cX6_verdictOn) (maxL := 2) (ret := (some .char)) (by decide) rfl ?_
  intro p e s m args below meth c s₁ B hml hv
  obtain ⟨rfl, hX, hK⟩ := hv
  have hx := B.exec
  have hb := B.bytes
  have hr := B.returns
  have hts := atoms_spec (ws := wsX6_verdictOn) B.pre
  have hown : s.vm.findClass RX6 = some m.cls := findClass_of_methodNamed B.named
  have hlocks := B.notSynchronized
  have hinX0 : ∀ w ∈ wsX00, w ∈ wsX6_verdictOn := by decide +kernel
  have hinX1 : ∀ w ∈ wsX10, w ∈ wsX6_verdictOn := by decide +kernel
  have lk236 := hts (.fieldLink RX6 236 "DyehouseLedger$Lot" "order" "LDyehouseLedger$Order;") (by decide +kernel)
  have lk288 := hts (.fieldLink RX6 288 "DyehouseLedger$Order" "bound" "I") (by decide +kernel)
  have hl := lv_entry ([.ref (ad 0 0), .ref (ad 16 i)]) (n := 2) (Nat.le_of_ble_eq_true rfl)
  rw [lg_entry_eq]
  generalize (lg_sl ([.ref (ad 0 0), .ref (ad 16 i)]) ++ List.replicate (2 - (lg_sl ([.ref (ad 0 0), .ref (ad 16 i)])).length) Slot.unset).toArray = ls at hl ⊢
  have hl : lv_has ls 2 [(0, .ref (ad 0 0)), (1, .ref (ad 16 i))] := hl
  refine lv_aload_n hx hb dX6_verdictOn_0 rfl (lv_at hl 1 rfl) ?_
  refine xc_ro (n := 0) (K := 16) (i := i) (As := []) (rest := []) (v := [.int (f_off σ (nI i))]) ⟨hx, hb, hml, hown, hts⟩ hK hX hi rfl rfl (qX0_distanceFromRecipe la g ad σ u τ hI i hi) gX6_verdictOn_X0_distanceFromRecipe rfl rfl rfl (by decide +kernel) ⟨Nat.le_of_ble_eq_true rfl, Nat.le_of_ble_eq_true rfl⟩ rfl hl.1 rfl (Nat.le_of_ble_eq_true rfl) dX6_verdictOn_1 ⟨Nat.zero_le _, Nat.zero_le _⟩ rfl ?_
  refine lv_aload_n hx hb dX6_verdictOn_4 rfl (lv_at hl 1 rfl) ?_
  refine x_get (K := 16) (i := i) (v := .ref (ad 15 (ti (σ 14 i)))) hx hb hts hinX0 hown hK hX hi 1 rfl rfl (by decide) rfl lk236 rfl dX6_verdictOn_5 ?_
  refine x_get (K := 15) (i := (ti (σ 14 i))) (v := .int (σ 11 (ti (σ 14 i)))) hx hb hts hinX1 hown hK hX (vin_lt (hI.2.2.1 _ hi)) 2 rfl rfl (by decide) rfl lk288 rfl dX6_verdictOn_8 ?_
  refine lv_icmp_le (tgt := 17) hx hb dX6_verdictOn_11 (by decide) (fun c_1 => ?_) (fun c_1 => ?_)
  · replace c_1 := Int32.not_lt.mpr c_1
    refine lv_aload_n hx hb dX6_verdictOn_17 rfl (lv_at hl 0 rfl) ?_
    refine lv_aload_n hx hb dX6_verdictOn_18 rfl (lv_at hl 1 rfl) ?_
    refine xc_ro (n := 1) (K := 0) (i := 0) (As := [.ref (ad 16 i)]) (rest := []) (v := [.int (greatF σ i 24)]) ⟨hx, hb, hml, hown, hts⟩ hK hX (show 0 < 1 from Nat.zero_lt_one) rfl rfl (qX6_greatestDistanceFromPassed la g ad σ u τ hI lo hA i hi) gX6_verdictOn_X6_greatestDistanceFromPassed rfl rfl rfl (by decide +kernel) ⟨Nat.le_of_ble_eq_true rfl, Nat.le_of_ble_eq_true rfl⟩ rfl hl.1 rfl (Nat.le_of_ble_eq_true rfl) dX6_verdictOn_19 ⟨Nat.zero_le _, Nat.zero_le _⟩ rfl ?_
    refine lv_aload_n hx hb dX6_verdictOn_22 rfl (lv_at hl 1 rfl) ?_
    refine x_get (K := 16) (i := i) (v := .ref (ad 15 (ti (σ 14 i)))) hx hb hts hinX0 hown hK hX hi 1 rfl rfl (by decide) rfl lk236 rfl dX6_verdictOn_23 ?_
    refine x_get (K := 15) (i := (ti (σ 14 i))) (v := .int (σ 11 (ti (σ 14 i)))) hx hb hts hinX1 hown hK hX (vin_lt (hI.2.2.1 _ hi)) 2 rfl rfl (by decide) rfl lk288 rfl dX6_verdictOn_26 ?_
    refine lv_icmp_le (tgt := 37) hx hb dX6_verdictOn_29 (by decide) (fun c_2 => ?_) (fun c_2 => ?_)
    · replace c_2 := Int32.not_lt.mpr c_2
      refine lv_bipush (v := 112) hx hb dX6_verdictOn_37 (by decide) ?_
      exact W.zret (v := 112) hx hb hr rfl (fun t ht9 hW => ⟨congrArg (fun z => Outcome.returned (some (Value.int z))) (by rw [judgedNI hI hi]; (repeat' split) <;> first | rfl | contradiction), ht9⟩) (fun _ h => nomatch h) dX6_verdictOn_39
    · replace c_2 := Int32.not_le.mp c_2
      refine lv_bipush (v := 97) hx hb dX6_verdictOn_32 (by decide) ?_
      refine lv_goto (tgt := 39) hx hb dX6_verdictOn_34 (by decide) ?_
      exact W.zret (v := 97) hx hb hr rfl (fun t ht9 hW => ⟨congrArg (fun z => Outcome.returned (some (Value.int z))) (by rw [judgedNI hI hi]; (repeat' split) <;> first | rfl | contradiction), ht9⟩) (fun _ h => nomatch h) dX6_verdictOn_39
  · replace c_1 := Int32.not_le.mp c_1
    refine lv_bipush (v := 102) hx hb dX6_verdictOn_14 (by decide) ?_
    exact W.zret (v := 102) hx hb hr rfl (fun t ht9 hW => ⟨congrArg (fun z => Outcome.returned (some (Value.int z))) (by rw [judgedNI hI hi]; (repeat' split) <;> first | rfl | contradiction), ht9⟩) (fun _ h => nomatch h) dX6_verdictOn_16
set_option maxHeartbeats 4000000 in
set_option maxRecDepth 100000 in
theorem qX6_lotsInState (la : Launch) (g : EG) (ad : Nat → Nat → Nat) (σ : Sg) (u : Nat → Int64) (τ : Sg) (hI : INV σ) (z : Int32) : Met la yX6_lotsInState wsX6_lotsInState ({ frames := 0, cells := 0, slots := 0, locals := 0 } : Room) (va_Pc [.ref (ad 0 0), .int z] (fun U => XR g ad σ u τ U.heap ∧ KK g U)) (QR (.returned (some (.int (c_st σ z (nL σ)))))) 0 0 (fun _ => False) := by
  refine Met.ofW (cc := cX6_lotsInState) (maxL := 7) (ret := (some .int)) (by decide) rfl ?_
  intro p e s m args below meth c s₁ B hml hv
  obtain ⟨rfl, hX, hK⟩ := hv
  have hx := B.exec
  have hb := B.bytes
  have hr := B.returns
  have hts := atoms_spec (ws := wsX6_lotsInState) B.pre
  have hown : s.vm.findClass RX6 = some m.cls := findClass_of_methodNamed B.named
  have hlocks := B.notSynchronized
  have hinX0 : ∀ w ∈ wsX00, w ∈ wsX6_lotsInState := by decide +kernel
  have hinX6 : ∀ w ∈ wsX60, w ∈ wsX6_lotsInState := by decide +kernel
  have lk147 := hts (.fieldLink RX6 147 "DyehouseLedger$Lot" "state" "C") (by decide +kernel)
  have lk23 := hts (.fieldLink RX6 23 "DyehouseLedger" "allLots" "[LDyehouseLedger$Lot;") (by decide +kernel)
  have hl := lv_entry ([.ref (ad 0 0), .int z]) (n := 7) (Nat.le_of_ble_eq_true rfl)
  rw [lg_entry_eq]
  generalize (lg_sl ([.ref (ad 0 0), .int z]) ++ List.replicate (7 - (lg_sl ([.ref (ad 0 0), .int z])).length) Slot.unset).toArray = ls at hl ⊢
  have hl : lv_has ls 7 [(0, .ref (ad 0 0)), (1, .int z)] := hl
  have hbL := hI.l.1
  have hbO := hI.o.1
  have hbV := hI.v.1
  refine lv_iconst (v := 0) hx hb dX6_lotsInState_0 (by decide) ?_
  refine lv_istore_n (lv' := [(2, .int 0), (0, .ref (ad 0 0)), (1, .int z)]) hx hb dX6_lotsInState_1 rfl hl (by decide) rfl (fun ls hl => ?_)
  refine lv_aload_n hx hb dX6_lotsInState_2 rfl (lv_at hl 1 rfl) ?_
  refine x_get (K := 0) (i := 0) (v := .ref (ad 3 0)) hx hb hts hinX6 hown hK hX (show 0 < 1 from Nat.zero_lt_one) 2 rfl rfl (by decide) rfl lk23 rfl dX6_lotsInState_3 ?_
  refine lv_astore_n (lv' := [(3, .ref (ad 3 0)), (2, .int 0), (0, .ref (ad 0 0)), (1, .int z)]) hx hb dX6_lotsInState_6 rfl hl (by decide) rfl (fun ls hl => ?_)
  refine lv_aload_n hx hb dX6_lotsInState_7 rfl (lv_at hl 0 rfl) ?_
  refine x_alen (K := 3) (t0 := 3) (v := 24) hx hb hK hX (show 0 < 1 from Nat.zero_lt_one) rfl rfl rfl dX6_lotsInState_8 ?_
  refine lv_istore (lv' := [(4, .int 24), (3, .ref (ad 3 0)), (2, .int 0), (0, .ref (ad 0 0)), (1, .int z)]) hx hb dX6_lotsInState_9 hl (by decide) rfl (fun ls hl => ?_)
  refine lv_iconst (v := 0) hx hb dX6_lotsInState_11 (by decide) ?_
  refine lv_istore (lv' := [(5, .int 0), (4, .int 24), (3, .ref (ad 3 0)), (2, .int 0), (0, .ref (ad 0 0)), (1, .int z)]) hx hb dX6_lotsInState_12 hl (by decide) rfl (fun ls hl => ?_)
  have lp14 : ∀ (n9 : Nat) (j : Nat), (j ≤ 24) → 24 - j < n9 → ∀ (ls : Array Slot), lv_has ls 7 [(0, .ref (ad 0 0)), (1, .int z), (2, .int (cutN σ (fun y => if σ 21 y = z then 1 else 0) j)), (3, .ref (ad 3 0)), (4, .int 24), (5, .int (nI j))] → W p la e ({ frames := 0, cells := 0, slots := 0, locals := 0 } : Room) s m ([.ref (ad 0 0), .int z] : List Value).toArray below meth c s.heap [] 0 0 (MQ below (QR (.returned (some (.int (c_st σ z (nL σ)))))) ([.ref (ad 0 0), .int z] : List Value).toArray s 0 0 (fun _ => False)) (F0 m 14 ls []) := by
    intro n9_14
    induction n9_14 with
    | zero => intro j _ h9 ; exact absurd h9 (Nat.not_lt_zero _)
    | succ n9_14 ih_14 =>
      intro j hj h9 ls hl
      refine lv_iload hx hb dX6_lotsInState_14 (lv_at hl 5 rfl) ?_
      refine lv_iload hx hb dX6_lotsInState_16 (lv_at hl 4 rfl) ?_
      refine lv_icmp_ge (tgt := 50) hx hb dX6_lotsInState_18 (by decide) (fun c_1 => ?_) (fun c_1 => ?_)
      · replace c_1 := Int32.not_lt.mpr c_1
        obtain rfl : j = 24 := ge24 hj c_1
        refine lv_iload_n hx hb dX6_lotsInState_50 rfl (lv_at hl 2 rfl) ?_
        exact W.iret (v := (cutN σ (fun y => if σ 21 y = z then 1 else 0) 24)) hx hb hr (fun t ht9 hW => ⟨congrArg (fun z => Outcome.returned (some (Value.int z))) (sumF_cut hI.l.1), ht9⟩) (fun _ h => nomatch h) dX6_lotsInState_51
      · replace c_1 := Int32.not_le.mp c_1
        have hj1 : j < 24 := lt24 hj c_1
        refine lv_aload_n hx hb dX6_lotsInState_21 rfl (lv_at hl 3 rfl) ?_
        refine lv_iload hx hb dX6_lotsInState_22 (lv_at hl 5 rfl) ?_
        by_cases z_2 : j < nL σ
        · refine x_aald (K := 3) (t0 := 3) (C := RX0) (n := 24) (f := refA ad 16 (nL σ)) (j := (nI j)) (v := .ref (ad 16 j)) hx hb hK hX (show 0 < 1 from Nat.zero_lt_one) rfl rfl (vin_nI hj1 (by decide)) (by rw [(ti_nI (by omega))]; exact refA_in z_2) dX6_lotsInState_24 ?_
          refine lv_astore (lv' := [(6, .ref (ad 16 j)), (0, .ref (ad 0 0)), (1, .int z), (2, .int (cutN σ (fun y => if σ 21 y = z then 1 else 0) j)), (3, .ref (ad 3 0)), (4, .int 24), (5, .int (nI j))]) hx hb dX6_lotsInState_25 hl (by decide) rfl (fun ls hl => ?_)
          refine lv_aload hx hb dX6_lotsInState_27 (lv_at hl 0 rfl) ?_
          refine lv_ifnull hx hb dX6_lotsInState_29 ?_
          refine lv_aload hx hb dX6_lotsInState_32 (lv_at hl 0 rfl) ?_
          refine x_get (K := 16) (i := j) (v := .int (σ 21 j)) hx hb hts hinX0 hown hK hX z_2 4 rfl rfl (by decide) rfl lk147 rfl dX6_lotsInState_34 ?_
          refine lv_iload_n hx hb dX6_lotsInState_37 rfl (lv_at hl 2 rfl) ?_
          refine lv_icmp_ne (tgt := 44) hx hb dX6_lotsInState_38 (by decide) (fun c_3 => ?_) (fun c_3 => ?_)
          · refine lv_iinc (v := ((nI j) + 1)) (lv' := [(5, .int ((nI j) + 1)), (6, .ref (ad 16 j)), (0, .ref (ad 0 0)), (1, .int z), (2, .int (cutN σ (fun y => if σ 21 y = z then 1 else 0) j)), (3, .ref (ad 3 0)), (4, .int 24)]) hx hb dX6_lotsInState_44 hl (k := 6) rfl rfl (by decide) rfl (fun ls hl => ?_)
            refine lv_goto (tgt := 14) hx hb dX6_lotsInState_47 (by decide) ?_
            have e_4 : ((cutN σ (fun y => if σ 21 y = z then 1 else 0) (j + 1)) : Int32) = (cutN σ (fun y => if σ 21 y = z then 1 else 0) j) := (by first | rfl | (simp only [cutN_s]; (repeat' split) <;> first | rfl | contradiction | exact Int32.add_zero _ | (exfalso; simp_all [-Int32.not_lt, -Int32.not_le]; done)) | (simp only [cutN_s]; simp_all [-Int32.not_lt, -Int32.not_le]; done))
            have e_5 : ((nI (j + 1)) : Int32) = ((nI j) + 1) := (nI_1 j).symm
            have hl2 : lv_has ls 7 [(0, .ref (ad 0 0)), (1, .int z), (2, .int (cutN σ (fun y => if σ 21 y = z then 1 else 0) (j + 1))), (3, .ref (ad 3 0)), (4, .int 24), (5, .int (nI (j + 1)))] := by
              rw [e_4, e_5]
              exact lv_sub hl [2, 3, 4, 5, 6, 0] rfl
            exact ih_14 (j + 1) (by omega) (by omega) ls hl2
          · refine lv_iinc (v := ((cutN σ (fun y => if σ 21 y = z then 1 else 0) j) + 1)) (lv' := [(2, .int ((cutN σ (fun y => if σ 21 y = z then 1 else 0) j) + 1)), (6, .ref (ad 16 j)), (0, .ref (ad 0 0)), (1, .int z), (3, .ref (ad 3 0)), (4, .int 24), (5, .int (nI j))]) hx hb dX6_lotsInState_41 hl (k := 3) rfl rfl (by decide) rfl (fun ls hl => ?_)
            refine lv_iinc (v := ((nI j) + 1)) (lv' := [(5, .int ((nI j) + 1)), (2, .int ((cutN σ (fun y => if σ 21 y = z then 1 else 0) j) + 1)), (6, .ref (ad 16 j)), (0, .ref (ad 0 0)), (1, .int z), (3, .ref (ad 3 0)), (4, .int 24)]) hx hb dX6_lotsInState_44 hl (k := 6) rfl rfl (by decide) rfl (fun ls hl => ?_)
            refine lv_goto (tgt := 14) hx hb dX6_lotsInState_47 (by decide) ?_
            have e_6 : ((cutN σ (fun y => if σ 21 y = z then 1 else 0) (j + 1)) : Int32) = ((cutN σ (fun y => if σ 21 y = z then 1 else 0) j) + 1) := (by first | rfl | (simp only [cutN_s]; (repeat' split) <;> first | rfl | contradiction | exact Int32.add_zero _ | (exfalso; simp_all [-Int32.not_lt, -Int32.not_le]; done)) | (simp only [cutN_s]; simp_all [-Int32.not_lt, -Int32.not_le]; done))
            have e_7 : ((nI (j + 1)) : Int32) = ((nI j) + 1) := (nI_1 j).symm
            have hl2 : lv_has ls 7 [(0, .ref (ad 0 0)), (1, .int z), (2, .int (cutN σ (fun y => if σ 21 y = z then 1 else 0) (j + 1))), (3, .ref (ad 3 0)), (4, .int 24), (5, .int (nI (j + 1)))] := by
              rw [e_6, e_7]
              exact lv_sub hl [3, 4, 1, 5, 6, 0] rfl
            exact ih_14 (j + 1) (by omega) (by omega) ls hl2
        · refine x_aald (K := 3) (t0 := 3) (C := RX0) (n := 24) (f := refA ad 16 (nL σ)) (j := (nI j)) (v := .null) hx hb hK hX (show 0 < 1 from Nat.zero_lt_one) rfl rfl (vin_nI hj1 (by decide)) (by rw [(ti_nI (by omega))]; exact refA_no z_2) dX6_lotsInState_24 ?_
          refine lv_astoreN (lv' := [(6, .null), (0, .ref (ad 0 0)), (1, .int z), (2, .int (cutN σ (fun y => if σ 21 y = z then 1 else 0) j)), (3, .ref (ad 3 0)), (4, .int 24), (5, .int (nI j))]) hx hb dX6_lotsInState_25 hl (by decide) rfl (fun ls hl => ?_)
          refine lv_aloadN hx hb dX6_lotsInState_27 (lv_at hl 0 rfl) ?_
          refine lv_ifnullN (tgt := 44) hx hb dX6_lotsInState_29 (by decide) ?_
          refine lv_iinc (v := ((nI j) + 1)) (lv' := [(5, .int ((nI j) + 1)), (6, .null), (0, .ref (ad 0 0)), (1, .int z), (2, .int (cutN σ (fun y => if σ 21 y = z then 1 else 0) j)), (3, .ref (ad 3 0)), (4, .int 24)]) hx hb dX6_lotsInState_44 hl (k := 6) rfl rfl (by decide) rfl (fun ls hl => ?_)
          refine lv_goto (tgt := 14) hx hb dX6_lotsInState_47 (by decide) ?_
          have e_8 : ((cutN σ (fun y => if σ 21 y = z then 1 else 0) (j + 1)) : Int32) = (cutN σ (fun y => if σ 21 y = z then 1 else 0) j) := (by first | rfl | (simp only [cutN_s]; (repeat' split) <;> first | rfl | contradiction | exact Int32.add_zero _ | (exfalso; simp_all [-Int32.not_lt, -Int32.not_le]; done)) | (simp only [cutN_s]; simp_all [-Int32.not_lt, -Int32.not_le]; done))
          have e_9 : ((nI (j + 1)) : Int32) = ((nI j) + 1) := (nI_1 j).symm
          have hl2 : lv_has ls 7 [(0, .ref (ad 0 0)), (1, .int z), (2, .int (cutN σ (fun y => if σ 21 y = z then 1 else 0) (j + 1))), (3, .ref (ad 3 0)), (4, .int 24), (5, .int (nI (j + 1)))] := by
            rw [e_8, e_9]
            exact lv_sub hl [2, 3, 4, 5, 6, 0] rfl
          exact ih_14 (j + 1) (by omega) (by omega) ls hl2
  have e_10 : ((cutN σ (fun y => if σ 21 y = z then 1 else 0) (0)) : Int32) = 0 := (by first | rfl | (simp only [cutN_s]; (repeat' split) <;> first | rfl | contradiction | exact Int32.add_zero _ | (exfalso; simp_all [-Int32.not_lt, -Int32.not_le]; done)) | (simp only [cutN_s]; simp_all [-Int32.not_lt, -Int32.not_le]; done))
  have e_11 : ((nI (0)) : Int32) = 0 := (by first | rfl | (simp only [cutN_s]; (repeat' split) <;> first | rfl | contradiction | exact Int32.add_zero _ | (exfalso; simp_all [-Int32.not_lt, -Int32.not_le]; done)) | (simp only [cutN_s]; simp_all [-Int32.not_lt, -Int32.not_le]; done))
  have hl2 : lv_has ls 7 [(0, .ref (ad 0 0)), (1, .int z), (2, .int (cutN σ (fun y => if σ 21 y = z then 1 else 0) (0))), (3, .ref (ad 3 0)), (4, .int 24), (5, .int (nI (0)))] := by
    rw [e_10, e_11]
    exact lv_sub hl [4, 5, 3, 2, 1, 0] rfl
  exact lp14 (24 - 0 + 1) (0) (Nat.zero_le _) (Nat.lt_succ_self _) ls hl2
set_option maxHeartbeats 4000000 in
set_option maxRecDepth 100000 in
theorem qX6_plannedLots (la : Launch) (g : EG) (ad : Nat → Nat → Nat) (σ : Sg) (u : Nat → Int64) (τ : Sg) (hI : INV σ) (lo : Nat) (hA : XA lo ad σ) (v : Nat) (hv : v < nV σ) : Met la yX6_plannedLots wsX6_plannedLots ({ frames := 0, cells := 0, slots := 0, locals := 0 } : Room) (va_Pc [.ref (ad 0 0), .ref (ad 18 v)] (fun U => XR g ad σ u τ U.heap ∧ KK g U)) (QR (.returned (some (.int (f_inPlan σ (nI v)))))) 0 0 (fun _ => False) := by
  refine Met.ofW (cc := cX6_plannedLots) (maxL := 7) (ret := (some .int)) (by decide) rfl ?_
  intro p e s m args below meth c s₁ B hml hv
  obtain ⟨rfl, hX, hK⟩ := hv
  have hx := B.exec
  have hb := B.bytes
  have hr := B.returns
  have hts := atoms_spec (ws := wsX6_plannedLots) B.pre
  have hown : s.vm.findClass RX6 = some m.cls := findClass_of_methodNamed B.named
  have hlocks := B.notSynchronized
  have hinX0 : ∀ w ∈ wsX00, w ∈ wsX6_plannedLots := by decide +kernel
  have hinX6 : ∀ w ∈ wsX60, w ∈ wsX6_plannedLots := by decide +kernel
  have lk164 := hts (.fieldLink RX6 164 "DyehouseLedger$Lot" "plannedFor" "LDyehouseLedger$Vat;") (by decide +kernel)
  have lk23 := hts (.fieldLink RX6 23 "DyehouseLedger" "allLots" "[LDyehouseLedger$Lot;") (by decide +kernel)
  have hl := lv_entry ([.ref (ad 0 0), .ref (ad 18 v)]) (n := 7) (Nat.le_of_ble_eq_true rfl)
  rw [lg_entry_eq]
  generalize (lg_sl ([.ref (ad 0 0), .ref (ad 18 v)]) ++ List.replicate (7 - (lg_sl ([.ref (ad 0 0), .ref (ad 18 v)])).length) Slot.unset).toArray = ls at hl ⊢
  have hl : lv_has ls 7 [(0, .ref (ad 0 0)), (1, .ref (ad 18 v))] := hl
  have hbL := hI.l.1
  have hbO := hI.o.1
  have hbV := hI.v.1
  have hv1 : ¬ (-1 : Int32) = nI v := fun q => nI_ne1 (i := v) (by omega) q.symm
  refine lv_iconst (v := 0) hx hb dX6_plannedLots_0 (by decide) ?_
  refine lv_istore_n (lv' := [(2, .int 0), (0, .ref (ad 0 0)), (1, .ref (ad 18 v))]) hx hb dX6_plannedLots_1 rfl hl (by decide) rfl (fun ls hl => ?_)
  refine lv_aload_n hx hb dX6_plannedLots_2 rfl (lv_at hl 1 rfl) ?_
  refine x_get (K := 0) (i := 0) (v := .ref (ad 3 0)) hx hb hts hinX6 hown hK hX (show 0 < 1 from Nat.zero_lt_one) 2 rfl rfl (by decide) rfl lk23 rfl dX6_plannedLots_3 ?_
  refine lv_astore_n (lv' := [(3, .ref (ad 3 0)), (2, .int 0), (0, .ref (ad 0 0)), (1, .ref (ad 18 v))]) hx hb dX6_plannedLots_6 rfl hl (by decide) rfl (fun ls hl => ?_)
  refine lv_aload_n hx hb dX6_plannedLots_7 rfl (lv_at hl 0 rfl) ?_
  refine x_alen (K := 3) (t0 := 3) (v := 24) hx hb hK hX (show 0 < 1 from Nat.zero_lt_one) rfl rfl rfl dX6_plannedLots_8 ?_
  refine lv_istore (lv' := [(4, .int 24), (3, .ref (ad 3 0)), (2, .int 0), (0, .ref (ad 0 0)), (1, .ref (ad 18 v))]) hx hb dX6_plannedLots_9 hl (by decide) rfl (fun ls hl => ?_)
  refine lv_iconst (v := 0) hx hb dX6_plannedLots_11 (by decide) ?_
  refine lv_istore (lv' := [(5, .int 0), (4, .int 24), (3, .ref (ad 3 0)), (2, .int 0), (0, .ref (ad 0 0)), (1, .ref (ad 18 v))]) hx hb dX6_plannedLots_12 hl (by decide) rfl (fun ls hl => ?_)
  have lp14 : ∀ (n9 : Nat) (j : Nat), (j ≤ 24) → 24 - j < n9 → ∀ (ls : Array Slot), lv_has ls 7 [(0, .ref (ad 0 0)), (1, .ref (ad 18 v)), (2, .int (cutN σ (fun y => if σ 20 y = nI v then 1 else 0) j)), (3, .ref (ad 3 0)), (4, .int 24), (5, .int (nI j))] → W p la e ({ frames := 0, cells := 0, slots := 0, locals := 0 } : Room) s m ([.ref (ad 0 0), .ref (ad 18 v)] : List Value).toArray below meth c s.heap [] 0 0 (MQ below (QR (.returned (some (.int (f_inPlan σ (nI v)))))) ([.ref (ad 0 0), .ref (ad 18 v)] : List Value).toArray s 0 0 (fun _ => False)) (F0 m 14 ls []) := by
    intro n9_14
    induction n9_14 with
    | zero => intro j _ h9 ; exact absurd h9 (Nat.not_lt_zero _)
    | succ n9_14 ih_14 =>
      intro j hj h9 ls hl
      refine lv_iload hx hb dX6_plannedLots_14 (lv_at hl 5 rfl) ?_
      refine lv_iload hx hb dX6_plannedLots_16 (lv_at hl 4 rfl) ?_
      refine lv_icmp_ge (tgt := 50) hx hb dX6_plannedLots_18 (by decide) (fun c_1 => ?_) (fun c_1 => ?_)
      · replace c_1 := Int32.not_lt.mpr c_1
        obtain rfl : j = 24 := ge24 hj c_1
        refine lv_iload_n hx hb dX6_plannedLots_50 rfl (lv_at hl 2 rfl) ?_
        exact W.iret (v := (cutN σ (fun y => if σ 20 y = nI v then 1 else 0) 24)) hx hb hr (fun t ht9 hW => ⟨congrArg (fun z => Outcome.returned (some (Value.int z))) (sumF_cut hI.l.1), ht9⟩) (fun _ h => nomatch h) dX6_plannedLots_51
      · replace c_1 := Int32.not_le.mp c_1
        have hj1 : j < 24 := lt24 hj c_1
        refine lv_aload_n hx hb dX6_plannedLots_21 rfl (lv_at hl 3 rfl) ?_
        refine lv_iload hx hb dX6_plannedLots_22 (lv_at hl 5 rfl) ?_
        by_cases z_2 : j < nL σ
        · refine x_aald (K := 3) (t0 := 3) (C := RX0) (n := 24) (f := refA ad 16 (nL σ)) (j := (nI j)) (v := .ref (ad 16 j)) hx hb hK hX (show 0 < 1 from Nat.zero_lt_one) rfl rfl (vin_nI hj1 (by decide)) (by rw [(ti_nI (by omega))]; exact refA_in z_2) dX6_plannedLots_24 ?_
          refine lv_astore (lv' := [(6, .ref (ad 16 j)), (0, .ref (ad 0 0)), (1, .ref (ad 18 v)), (2, .int (cutN σ (fun y => if σ 20 y = nI v then 1 else 0) j)), (3, .ref (ad 3 0)), (4, .int 24), (5, .int (nI j))]) hx hb dX6_plannedLots_25 hl (by decide) rfl (fun ls hl => ?_)
          refine lv_aload hx hb dX6_plannedLots_27 (lv_at hl 0 rfl) ?_
          refine lv_ifnull hx hb dX6_plannedLots_29 ?_
          refine lv_aload hx hb dX6_plannedLots_32 (lv_at hl 0 rfl) ?_
          by_cases z_3 : σ 20 j = -1
          · refine x_get (K := 16) (i := j) (v := .null) hx hb hts hinX0 hown hK hX z_2 8 rfl rfl (by decide) rfl lk164 (congrArg some (opt_no z_3)) dX6_plannedLots_34 ?_
            refine lv_aload_n hx hb dX6_plannedLots_37 rfl (lv_at hl 2 rfl) ?_
            refine x_acmp_neN (tgt := 44) hx hb dX6_plannedLots_38 (by decide) ?_
            refine lv_iinc (v := ((nI j) + 1)) (lv' := [(5, .int ((nI j) + 1)), (6, .ref (ad 16 j)), (0, .ref (ad 0 0)), (1, .ref (ad 18 v)), (2, .int (cutN σ (fun y => if σ 20 y = nI v then 1 else 0) j)), (3, .ref (ad 3 0)), (4, .int 24)]) hx hb dX6_plannedLots_44 hl (k := 6) rfl rfl (by decide) rfl (fun ls hl => ?_)
            refine lv_goto (tgt := 14) hx hb dX6_plannedLots_47 (by decide) ?_
            have e_4 : ((cutN σ (fun y => if σ 20 y = nI v then 1 else 0) (j + 1)) : Int32) = (cutN σ (fun y => if σ 20 y = nI v then 1 else 0) j) := (by first | rfl | (simp only [cutN_s]; (repeat' split) <;> first | rfl | contradiction | exact Int32.add_zero _ | (exfalso; simp_all [-Int32.not_lt, -Int32.not_le]; done)) | (simp only [cutN_s]; simp_all [-Int32.not_lt, -Int32.not_le]; done))
            have e_5 : ((nI (j + 1)) : Int32) = ((nI j) + 1) := (nI_1 j).symm
            have hl2 : lv_has ls 7 [(0, .ref (ad 0 0)), (1, .ref (ad 18 v)), (2, .int (cutN σ (fun y => if σ 20 y = nI v then 1 else 0) (j + 1))), (3, .ref (ad 3 0)), (4, .int 24), (5, .int (nI (j + 1)))] := by
              rw [e_4, e_5]
              exact lv_sub hl [2, 3, 4, 5, 6, 0] rfl
            exact ih_14 (j + 1) (by omega) (by omega) ls hl2
          · refine x_get (K := 16) (i := j) (v := .ref (ad 18 (ti (σ 20 j)))) hx hb hts hinX0 hown hK hX z_2 8 rfl rfl (by decide) rfl lk164 (congrArg some (opt_in z_3)) dX6_plannedLots_34 ?_
            refine lv_aload_n hx hb dX6_plannedLots_37 rfl (lv_at hl 2 rfl) ?_
            refine x_acmp_ne (tgt := 44) hx hb dX6_plannedLots_38 (by decide) (fun c_6 => ?_) (fun c_6 => ?_)
            · replace c_6 := fun q => c_6 ((xa_iff hA (K := 18) (vin_lt (hI.2.2.2.2.2.2.1 _ z_2 z_3).1) hv).mpr q)
              replace c_6 : ¬ (σ 20 j) = nI v := fun q => c_6 ((ti_eq (vin_mono (hI.2.2.2.2.2.2.1 _ z_2 z_3).1 hI.v.1) (by decide)).mpr q)
              refine lv_iinc (v := ((nI j) + 1)) (lv' := [(5, .int ((nI j) + 1)), (6, .ref (ad 16 j)), (0, .ref (ad 0 0)), (1, .ref (ad 18 v)), (2, .int (cutN σ (fun y => if σ 20 y = nI v then 1 else 0) j)), (3, .ref (ad 3 0)), (4, .int 24)]) hx hb dX6_plannedLots_44 hl (k := 6) rfl rfl (by decide) rfl (fun ls hl => ?_)
              refine lv_goto (tgt := 14) hx hb dX6_plannedLots_47 (by decide) ?_
              have e_7 : ((cutN σ (fun y => if σ 20 y = nI v then 1 else 0) (j + 1)) : Int32) = (cutN σ (fun y => if σ 20 y = nI v then 1 else 0) j) := (by first | rfl | (simp only [cutN_s]; (repeat' split) <;> first | rfl | contradiction | exact Int32.add_zero _ | (exfalso; simp_all [-Int32.not_lt, -Int32.not_le]; done)) | (simp only [cutN_s]; simp_all [-Int32.not_lt, -Int32.not_le]; done))
              have e_8 : ((nI (j + 1)) : Int32) = ((nI j) + 1) := (nI_1 j).symm
              have hl2 : lv_has ls 7 [(0, .ref (ad 0 0)), (1, .ref (ad 18 v)), (2, .int (cutN σ (fun y => if σ 20 y = nI v then 1 else 0) (j + 1))), (3, .ref (ad 3 0)), (4, .int 24), (5, .int (nI (j + 1)))] := by
                rw [e_7, e_8]
                exact lv_sub hl [2, 3, 4, 5, 6, 0] rfl
              exact ih_14 (j + 1) (by omega) (by omega) ls hl2
            · replace c_6 := (xa_iff hA (K := 18) (vin_lt (hI.2.2.2.2.2.2.1 _ z_2 z_3).1) hv).mp c_6
              replace c_6 := (ti_eq (vin_mono (hI.2.2.2.2.2.2.1 _ z_2 z_3).1 hI.v.1) (by decide)).mp c_6
              refine lv_iinc (v := ((cutN σ (fun y => if σ 20 y = nI v then 1 else 0) j) + 1)) (lv' := [(2, .int ((cutN σ (fun y => if σ 20 y = nI v then 1 else 0) j) + 1)), (6, .ref (ad 16 j)), (0, .ref (ad 0 0)), (1, .ref (ad 18 v)), (3, .ref (ad 3 0)), (4, .int 24), (5, .int (nI j))]) hx hb dX6_plannedLots_41 hl (k := 3) rfl rfl (by decide) rfl (fun ls hl => ?_)
              refine lv_iinc (v := ((nI j) + 1)) (lv' := [(5, .int ((nI j) + 1)), (2, .int ((cutN σ (fun y => if σ 20 y = nI v then 1 else 0) j) + 1)), (6, .ref (ad 16 j)), (0, .ref (ad 0 0)), (1, .ref (ad 18 v)), (3, .ref (ad 3 0)), (4, .int 24)]) hx hb dX6_plannedLots_44 hl (k := 6) rfl rfl (by decide) rfl (fun ls hl => ?_)
              refine lv_goto (tgt := 14) hx hb dX6_plannedLots_47 (by decide) ?_
              have e_9 : ((cutN σ (fun y => if σ 20 y = nI v then 1 else 0) (j + 1)) : Int32) = ((cutN σ (fun y => if σ 20 y = nI v then 1 else 0) j) + 1) := (by first | rfl | (simp only [cutN_s]; (repeat' split) <;> first | rfl | contradiction | exact Int32.add_zero _ | (exfalso; simp_all [-Int32.not_lt, -Int32.not_le]; done)) | (simp only [cutN_s]; simp_all [-Int32.not_lt, -Int32.not_le]; done))
              have e_10 : ((nI (j + 1)) : Int32) = ((nI j) + 1) := (nI_1 j).symm
              have hl2 : lv_has ls 7 [(0, .ref (ad 0 0)), (1, .ref (ad 18 v)), (2, .int (cutN σ (fun y => if σ 20 y = nI v then 1 else 0) (j + 1))), (3, .ref (ad 3 0)), (4, .int 24), (5, .int (nI (j + 1)))] := by
                rw [e_9, e_10]
                exact lv_sub hl [3, 4, 1, 5, 6, 0] rfl
              exact ih_14 (j + 1) (by omega) (by omega) ls hl2
        · refine x_aald (K := 3) (t0 := 3) (C := RX0) (n := 24) (f := refA ad 16 (nL σ)) (j := (nI j)) (v := .null) hx hb hK hX (show 0 < 1 from Nat.zero_lt_one) rfl rfl (vin_nI hj1 (by decide)) (by rw [(ti_nI (by omega))]; exact refA_no z_2) dX6_plannedLots_24 ?_
          refine lv_astoreN (lv' := [(6, .null), (0, .ref (ad 0 0)), (1, .ref (ad 18 v)), (2, .int (cutN σ (fun y => if σ 20 y = nI v then 1 else 0) j)), (3, .ref (ad 3 0)), (4, .int 24), (5, .int (nI j))]) hx hb dX6_plannedLots_25 hl (by decide) rfl (fun ls hl => ?_)
          refine lv_aloadN hx hb dX6_plannedLots_27 (lv_at hl 0 rfl) ?_
          refine lv_ifnullN (tgt := 44) hx hb dX6_plannedLots_29 (by decide) ?_
          refine lv_iinc (v := ((nI j) + 1)) (lv' := [(5, .int ((nI j) + 1)), (6, .null), (0, .ref (ad 0 0)), (1, .ref (ad 18 v)), (2, .int (cutN σ (fun y => if σ 20 y = nI v then 1 else 0) j)), (3, .ref (ad 3 0)), (4, .int 24)]) hx hb dX6_plannedLots_44 hl (k := 6) rfl rfl (by decide) rfl (fun ls hl => ?_)
          refine lv_goto (tgt := 14) hx hb dX6_plannedLots_47 (by decide) ?_
          have e_11 : ((cutN σ (fun y => if σ 20 y = nI v then 1 else 0) (j + 1)) : Int32) = (cutN σ (fun y => if σ 20 y = nI v then 1 else 0) j) := (by first | rfl | (simp only [cutN_s]; (repeat' split) <;> first | rfl | contradiction | exact Int32.add_zero _ | (exfalso; simp_all [-Int32.not_lt, -Int32.not_le]; done)) | (simp only [cutN_s]; simp_all [-Int32.not_lt, -Int32.not_le]; done))
          have e_12 : ((nI (j + 1)) : Int32) = ((nI j) + 1) := (nI_1 j).symm
          have hl2 : lv_has ls 7 [(0, .ref (ad 0 0)), (1, .ref (ad 18 v)), (2, .int (cutN σ (fun y => if σ 20 y = nI v then 1 else 0) (j + 1))), (3, .ref (ad 3 0)), (4, .int 24), (5, .int (nI (j + 1)))] := by
            rw [e_11, e_12]
            exact lv_sub hl [2, 3, 4, 5, 6, 0] rfl
          exact ih_14 (j + 1) (by omega) (by omega) ls hl2
  have e_13 : ((cutN σ (fun y => if σ 20 y = nI v then 1 else 0) (0)) : Int32) = 0 := (by first | rfl | (simp only [cutN_s]; (repeat' split) <;> first | rfl | contradiction | exact Int32.add_zero _ | (exfalso; simp_all [-Int32.not_lt, -Int32.not_le]; done)) | (simp only [cutN_s]; simp_all [-Int32.not_lt, -Int32.not_le]; done))
  have e_14 : ((nI (0)) : Int32) = 0 := (by first | rfl | (simp only [cutN_s]; (repeat' split) <;> first | rfl | contradiction | exact Int32.add_zero _ | (exfalso; simp_all [-Int32.not_lt, -Int32.not_le]; done)) | (simp only [cutN_s]; simp_all [-Int32.not_lt, -Int32.not_le]; done))
  have hl2 : lv_has ls 7 [(0, .ref (ad 0 0)), (1, .ref (ad 18 v)), (2, .int (cutN σ (fun y => if σ 20 y = nI v then 1 else 0) (0))), (3, .ref (ad 3 0)), (4, .int 24), (5, .int (nI (0)))] := by
    rw [e_13, e_14]
    exact lv_sub hl [4, 5, 3, 2, 1, 0] rfl
  exact lp14 (24 - 0 + 1) (0) (Nat.zero_le _) (Nat.lt_succ_self _) ls hl2
set_option maxHeartbeats 4000000 in
set_option maxRecDepth 100000 in
theorem qX6_placeByLight (la : Launch) (g : EG) (ad : Nat → Nat → Nat) (σ : Sg) (u : Nat → Int64) (τ : Sg) (hI : INV σ) (i : Nat) (hi : i < nL σ) : Met la yX6_placeByLight wsX6_placeByLight ({ frames := 1, cells := 0, slots := 0, locals := 21 } : Room) (va_Pc [.ref (ad 0 0), .ref (ad 16 i)] (fun U => XR g ad σ u τ U.heap ∧ KK g U)) (QR (.returned (some (.int (f_placeN σ i (nL σ)))))) 0 0 (fun _ => False) := by
  refine Met.ofW (cc := cX6_placeByLight) (maxL := 7) (ret := (some .int)) (by decide) rfl ?_
  intro p e s m args below meth c s₁ B hml hv
  obtain ⟨rfl, hX, hK⟩ := hv
  have hx := B.exec
  have hb := B.bytes
  have hr := B.returns
  have hts := atoms_spec (ws := wsX6_placeByLight) B.pre
  have hown : s.vm.findClass RX6 = some m.cls := findClass_of_methodNamed B.named
  have hlocks := B.notSynchronized
  have hinX0 : ∀ w ∈ wsX00, w ∈ wsX6_placeByLight := by decide +kernel
  have hinX6 : ∀ w ∈ wsX60, w ∈ wsX6_placeByLight := by decide +kernel
  have lk147 := hts (.fieldLink RX6 147 "DyehouseLedger$Lot" "state" "C") (by decide +kernel)
  have lk23 := hts (.fieldLink RX6 23 "DyehouseLedger" "allLots" "[LDyehouseLedger$Lot;") (by decide +kernel)
  have hl := lv_entry ([.ref (ad 0 0), .ref (ad 16 i)]) (n := 7) (Nat.le_of_ble_eq_true rfl)
  rw [lg_entry_eq]
  generalize (lg_sl ([.ref (ad 0 0), .ref (ad 16 i)]) ++ List.replicate (7 - (lg_sl ([.ref (ad 0 0), .ref (ad 16 i)])).length) Slot.unset).toArray = ls at hl ⊢
  have hl : lv_has ls 7 [(0, .ref (ad 0 0)), (1, .ref (ad 16 i))] := hl
  have hbL := hI.l.1
  have hbO := hI.o.1
  have hbV := hI.v.1
  refine lv_iconst (v := 0) hx hb dX6_placeByLight_0 (by decide) ?_
  refine lv_istore_n (lv' := [(2, .int 0), (0, .ref (ad 0 0)), (1, .ref (ad 16 i))]) hx hb dX6_placeByLight_1 rfl hl (by decide) rfl (fun ls hl => ?_)
  refine lv_aload_n hx hb dX6_placeByLight_2 rfl (lv_at hl 1 rfl) ?_
  refine x_get (K := 0) (i := 0) (v := .ref (ad 3 0)) hx hb hts hinX6 hown hK hX (show 0 < 1 from Nat.zero_lt_one) 2 rfl rfl (by decide) rfl lk23 rfl dX6_placeByLight_3 ?_
  refine lv_astore_n (lv' := [(3, .ref (ad 3 0)), (2, .int 0), (0, .ref (ad 0 0)), (1, .ref (ad 16 i))]) hx hb dX6_placeByLight_6 rfl hl (by decide) rfl (fun ls hl => ?_)
  refine lv_aload_n hx hb dX6_placeByLight_7 rfl (lv_at hl 0 rfl) ?_
  refine x_alen (K := 3) (t0 := 3) (v := 24) hx hb hK hX (show 0 < 1 from Nat.zero_lt_one) rfl rfl rfl dX6_placeByLight_8 ?_
  refine lv_istore (lv' := [(4, .int 24), (3, .ref (ad 3 0)), (2, .int 0), (0, .ref (ad 0 0)), (1, .ref (ad 16 i))]) hx hb dX6_placeByLight_9 hl (by decide) rfl (fun ls hl => ?_)
  refine lv_iconst (v := 0) hx hb dX6_placeByLight_11 (by decide) ?_
  refine lv_istore (lv' := [(5, .int 0), (4, .int 24), (3, .ref (ad 3 0)), (2, .int 0), (0, .ref (ad 0 0)), (1, .ref (ad 16 i))]) hx hb dX6_placeByLight_12 hl (by decide) rfl (fun ls hl => ?_)
  have lp14 : ∀ (n9 : Nat) (j : Nat), (j ≤ 24) → 24 - j < n9 → ∀ (ls : Array Slot), lv_has ls 7 [(0, .ref (ad 0 0)), (1, .ref (ad 16 i)), (2, .int (cutN σ (fun y => if ¬ σ 21 y = 119 ∧ b_ahead σ (nI y) (nI i) = true then 1 else 0) j)), (3, .ref (ad 3 0)), (4, .int 24), (5, .int (nI j))] → W p la e ({ frames := 1, cells := 0, slots := 0, locals := 21 } : Room) s m ([.ref (ad 0 0), .ref (ad 16 i)] : List Value).toArray below meth c s.heap [] 0 0 (MQ below (QR (.returned (some (.int (f_placeN σ i (nL σ)))))) ([.ref (ad 0 0), .ref (ad 16 i)] : List Value).toArray s 0 0 (fun _ => False)) (F0 m 14 ls []) := by
    intro n9_14
    induction n9_14 with
    | zero => intro j _ h9 ; exact absurd h9 (Nat.not_lt_zero _)
    | succ n9_14 ih_14 =>
      intro j hj h9 ls hl
      refine lv_iload hx hb dX6_placeByLight_14 (lv_at hl 5 rfl) ?_
      refine lv_iload hx hb dX6_placeByLight_16 (lv_at hl 4 rfl) ?_
      refine lv_icmp_ge (tgt := 60) hx hb dX6_placeByLight_18 (by decide) (fun c_1 => ?_) (fun c_1 => ?_)
      · replace c_1 := Int32.not_lt.mpr c_1
        obtain rfl : j = 24 := ge24 hj c_1
        refine lv_iload_n hx hb dX6_placeByLight_60 rfl (lv_at hl 2 rfl) ?_
        exact W.iret (v := (cutN σ (fun y => if ¬ σ 21 y = 119 ∧ b_ahead σ (nI y) (nI i) = true then 1 else 0) 24)) hx hb hr (fun t ht9 hW => ⟨congrArg (fun z => Outcome.returned (some (Value.int z))) (placeNI hI hi), ht9⟩) (fun _ h => nomatch h) dX6_placeByLight_61
      · replace c_1 := Int32.not_le.mp c_1
        have hj1 : j < 24 := lt24 hj c_1
        refine lv_aload_n hx hb dX6_placeByLight_21 rfl (lv_at hl 3 rfl) ?_
        refine lv_iload hx hb dX6_placeByLight_22 (lv_at hl 5 rfl) ?_
        by_cases z_2 : j < nL σ
        · refine x_aald (K := 3) (t0 := 3) (C := RX0) (n := 24) (f := refA ad 16 (nL σ)) (j := (nI j)) (v := .ref (ad 16 j)) hx hb hK hX (show 0 < 1 from Nat.zero_lt_one) rfl rfl (vin_nI hj1 (by decide)) (by rw [(ti_nI (by omega))]; exact refA_in z_2) dX6_placeByLight_24 ?_
          refine lv_astore (lv' := [(6, .ref (ad 16 j)), (0, .ref (ad 0 0)), (1, .ref (ad 16 i)), (2, .int (cutN σ (fun y => if ¬ σ 21 y = 119 ∧ b_ahead σ (nI y) (nI i) = true then 1 else 0) j)), (3, .ref (ad 3 0)), (4, .int 24), (5, .int (nI j))]) hx hb dX6_placeByLight_25 hl (by decide) rfl (fun ls hl => ?_)
          refine lv_aload hx hb dX6_placeByLight_27 (lv_at hl 0 rfl) ?_
          refine lv_ifnull hx hb dX6_placeByLight_29 ?_
          refine lv_aload hx hb dX6_placeByLight_32 (lv_at hl 0 rfl) ?_
          refine x_get (K := 16) (i := j) (v := .int (σ 21 j)) hx hb hts hinX0 hown hK hX z_2 4 rfl rfl (by decide) rfl lk147 rfl dX6_placeByLight_34 ?_
          refine lv_bipush (v := 119) hx hb dX6_placeByLight_37 (by decide) ?_
          refine lv_icmp_eq (tgt := 54) hx hb dX6_placeByLight_39 (by decide) (fun c_3 => ?_) (fun c_3 => ?_)
          · refine lv_iinc (v := ((nI j) + 1)) (lv' := [(5, .int ((nI j) + 1)), (6, .ref (ad 16 j)), (0, .ref (ad 0 0)), (1, .ref (ad 16 i)), (2, .int (cutN σ (fun y => if ¬ σ 21 y = 119 ∧ b_ahead σ (nI y) (nI i) = true then 1 else 0) j)), (3, .ref (ad 3 0)), (4, .int 24)]) hx hb dX6_placeByLight_54 hl (k := 6) rfl rfl (by decide) rfl (fun ls hl => ?_)
            refine lv_goto (tgt := 14) hx hb dX6_placeByLight_57 (by decide) ?_
            have e_4 : ((cutN σ (fun y => if ¬ σ 21 y = 119 ∧ b_ahead σ (nI y) (nI i) = true then 1 else 0) (j + 1)) : Int32) = (cutN σ (fun y => if ¬ σ 21 y = 119 ∧ b_ahead σ (nI y) (nI i) = true then 1 else 0) j) := (by first | rfl | (simp only [cutN_s]; (repeat' split) <;> first | rfl | contradiction | exact Int32.add_zero _ | (exfalso; simp_all [-Int32.not_lt, -Int32.not_le]; done)) | (simp only [cutN_s]; simp_all [-Int32.not_lt, -Int32.not_le]; done))
            have e_5 : ((nI (j + 1)) : Int32) = ((nI j) + 1) := (nI_1 j).symm
            have hl2 : lv_has ls 7 [(0, .ref (ad 0 0)), (1, .ref (ad 16 i)), (2, .int (cutN σ (fun y => if ¬ σ 21 y = 119 ∧ b_ahead σ (nI y) (nI i) = true then 1 else 0) (j + 1))), (3, .ref (ad 3 0)), (4, .int 24), (5, .int (nI (j + 1)))] := by
              rw [e_4, e_5]
              exact lv_sub hl [2, 3, 4, 5, 6, 0] rfl
            exact ih_14 (j + 1) (by omega) (by omega) ls hl2
          · refine lv_aload hx hb dX6_placeByLight_42 (lv_at hl 0 rfl) ?_
            refine lv_aload_n hx hb dX6_placeByLight_44 rfl (lv_at hl 2 rfl) ?_
            refine xc_ro (n := 1) (K := 16) (i := j) (As := [.ref (ad 16 i)]) (rest := []) (v := [.int (if b_ahead σ (nI j) (nI i) = true then 1 else 0)]) ⟨hx, hb, hml, hown, hts⟩ hK hX z_2 rfl rfl (qX0_comesBeforeByLight la g ad σ u τ hI j z_2 i hi) gX6_placeByLight_X0_comesBeforeByLight rfl rfl rfl (by decide +kernel) ⟨Nat.le_of_ble_eq_true rfl, Nat.le_of_ble_eq_true rfl⟩ rfl hl.1 rfl (Nat.le_of_ble_eq_true rfl) dX6_placeByLight_45 ⟨Nat.zero_le _, Nat.zero_le _⟩ rfl ?_
            refine br_if_eq (c9 := b_ahead σ (nI j) (nI i) = true) (tgt := 54) hx hb dX6_placeByLight_48 (by decide) (fun c_6 => ?_) (fun c_6 => ?_)
            · refine lv_iinc (v := ((nI j) + 1)) (lv' := [(5, .int ((nI j) + 1)), (6, .ref (ad 16 j)), (0, .ref (ad 0 0)), (1, .ref (ad 16 i)), (2, .int (cutN σ (fun y => if ¬ σ 21 y = 119 ∧ b_ahead σ (nI y) (nI i) = true then 1 else 0) j)), (3, .ref (ad 3 0)), (4, .int 24)]) hx hb dX6_placeByLight_54 hl (k := 6) rfl rfl (by decide) rfl (fun ls hl => ?_)
              refine lv_goto (tgt := 14) hx hb dX6_placeByLight_57 (by decide) ?_
              have e_7 : ((cutN σ (fun y => if ¬ σ 21 y = 119 ∧ b_ahead σ (nI y) (nI i) = true then 1 else 0) (j + 1)) : Int32) = (cutN σ (fun y => if ¬ σ 21 y = 119 ∧ b_ahead σ (nI y) (nI i) = true then 1 else 0) j) := (by first | rfl | (simp only [cutN_s]; (repeat' split) <;> first | rfl | contradiction | exact Int32.add_zero _ | (exfalso; simp_all [-Int32.not_lt, -Int32.not_le]; done)) | (simp only [cutN_s]; simp_all [-Int32.not_lt, -Int32.not_le]; done))
              have e_8 : ((nI (j + 1)) : Int32) = ((nI j) + 1) := (nI_1 j).symm
              have hl2 : lv_has ls 7 [(0, .ref (ad 0 0)), (1, .ref (ad 16 i)), (2, .int (cutN σ (fun y => if ¬ σ 21 y = 119 ∧ b_ahead σ (nI y) (nI i) = true then 1 else 0) (j + 1))), (3, .ref (ad 3 0)), (4, .int 24), (5, .int (nI (j + 1)))] := by
                rw [e_7, e_8]
                exact lv_sub hl [2, 3, 4, 5, 6, 0] rfl
              exact ih_14 (j + 1) (by omega) (by omega) ls hl2
            · refine lv_iinc (v := ((cutN σ (fun y => if ¬ σ 21 y = 119 ∧ b_ahead σ (nI y) (nI i) = true then 1 else 0) j) + 1)) (lv' := [(2, .int ((cutN σ (fun y => if ¬ σ 21 y = 119 ∧ b_ahead σ (nI y) (nI i) = true then 1 else 0) j) + 1)), (6, .ref (ad 16 j)), (0, .ref (ad 0 0)), (1, .ref (ad 16 i)), (3, .ref (ad 3 0)), (4, .int 24), (5, .int (nI j))]) hx hb dX6_placeByLight_51 hl (k := 3) rfl rfl (by decide) rfl (fun ls hl => ?_)
              refine lv_iinc (v := ((nI j) + 1)) (lv' := [(5, .int ((nI j) + 1)), (2, .int ((cutN σ (fun y => if ¬ σ 21 y = 119 ∧ b_ahead σ (nI y) (nI i) = true then 1 else 0) j) + 1)), (6, .ref (ad 16 j)), (0, .ref (ad 0 0)), (1, .ref (ad 16 i)), (3, .ref (ad 3 0)), (4, .int 24)]) hx hb dX6_placeByLight_54 hl (k := 6) rfl rfl (by decide) rfl (fun ls hl => ?_)
              refine lv_goto (tgt := 14) hx hb dX6_placeByLight_57 (by decide) ?_
              have e_9 : ((cutN σ (fun y => if ¬ σ 21 y = 119 ∧ b_ahead σ (nI y) (nI i) = true then 1 else 0) (j + 1)) : Int32) = ((cutN σ (fun y => if ¬ σ 21 y = 119 ∧ b_ahead σ (nI y) (nI i) = true then 1 else 0) j) + 1) := (by first | rfl | (simp only [cutN_s]; (repeat' split) <;> first | rfl | contradiction | exact Int32.add_zero _ | (exfalso; simp_all [-Int32.not_lt, -Int32.not_le]; done)) | (simp only [cutN_s]; simp_all [-Int32.not_lt, -Int32.not_le]; done))
              have e_10 : ((nI (j + 1)) : Int32) = ((nI j) + 1) := (nI_1 j).symm
              have hl2 : lv_has ls 7 [(0, .ref (ad 0 0)), (1, .ref (ad 16 i)), (2, .int (cutN σ (fun y => if ¬ σ 21 y = 119 ∧ b_ahead σ (nI y) (nI i) = true then 1 else 0) (j + 1))), (3, .ref (ad 3 0)), (4, .int 24), (5, .int (nI (j + 1)))] := by
                rw [e_9, e_10]
                exact lv_sub hl [3, 4, 1, 5, 6, 0] rfl
              exact ih_14 (j + 1) (by omega) (by omega) ls hl2
        · refine x_aald (K := 3) (t0 := 3) (C := RX0) (n := 24) (f := refA ad 16 (nL σ)) (j := (nI j)) (v := .null) hx hb hK hX (show 0 < 1 from Nat.zero_lt_one) rfl rfl (vin_nI hj1 (by decide)) (by rw [(ti_nI (by omega))]; exact refA_no z_2) dX6_placeByLight_24 ?_
          refine lv_astoreN (lv' := [(6, .null), (0, .ref (ad 0 0)), (1, .ref (ad 16 i)), (2, .int (cutN σ (fun y => if ¬ σ 21 y = 119 ∧ b_ahead σ (nI y) (nI i) = true then 1 else 0) j)), (3, .ref (ad 3 0)), (4, .int 24), (5, .int (nI j))]) hx hb dX6_placeByLight_25 hl (by decide) rfl (fun ls hl => ?_)
          refine lv_aloadN hx hb dX6_placeByLight_27 (lv_at hl 0 rfl) ?_
          refine lv_ifnullN (tgt := 54) hx hb dX6_placeByLight_29 (by decide) ?_
          refine lv_iinc (v := ((nI j) + 1)) (lv' := [(5, .int ((nI j) + 1)), (6, .null), (0, .ref (ad 0 0)), (1, .ref (ad 16 i)), (2, .int (cutN σ (fun y => if ¬ σ 21 y = 119 ∧ b_ahead σ (nI y) (nI i) = true then 1 else 0) j)), (3, .ref (ad 3 0)), (4, .int 24)]) hx hb dX6_placeByLight_54 hl (k := 6) rfl rfl (by decide) rfl (fun ls hl => ?_)
          refine lv_goto (tgt := 14) hx hb dX6_placeByLight_57 (by decide) ?_
          have e_11 : ((cutN σ (fun y => if ¬ σ 21 y = 119 ∧ b_ahead σ (nI y) (nI i) = true then 1 else 0) (j + 1)) : Int32) = (cutN σ (fun y => if ¬ σ 21 y = 119 ∧ b_ahead σ (nI y) (nI i) = true then 1 else 0) j) := (by first | rfl | (simp only [cutN_s]; (repeat' split) <;> first | rfl | contradiction | exact Int32.add_zero _ | (exfalso; simp_all [-Int32.not_lt, -Int32.not_le]; done)) | (simp only [cutN_s]; simp_all [-Int32.not_lt, -Int32.not_le]; done))
          have e_12 : ((nI (j + 1)) : Int32) = ((nI j) + 1) := (nI_1 j).symm
          have hl2 : lv_has ls 7 [(0, .ref (ad 0 0)), (1, .ref (ad 16 i)), (2, .int (cutN σ (fun y => if ¬ σ 21 y = 119 ∧ b_ahead σ (nI y) (nI i) = true then 1 else 0) (j + 1))), (3, .ref (ad 3 0)), (4, .int 24), (5, .int (nI (j + 1)))] := by
            rw [e_11, e_12]
            exact lv_sub hl [2, 3, 4, 5, 6, 0] rfl
          exact ih_14 (j + 1) (by omega) (by omega) ls hl2
  have e_13 : ((cutN σ (fun y => if ¬ σ 21 y = 119 ∧ b_ahead σ (nI y) (nI i) = true then 1 else 0) (0)) : Int32) = 0 := (by first | rfl | (simp only [cutN_s]; (repeat' split) <;> first | rfl | contradiction | exact Int32.add_zero _ | (exfalso; simp_all [-Int32.not_lt, -Int32.not_le]; done)) | (simp only [cutN_s]; simp_all [-Int32.not_lt, -Int32.not_le]; done))
  have e_14 : ((nI (0)) : Int32) = 0 := (by first | rfl | (simp only [cutN_s]; (repeat' split) <;> first | rfl | contradiction | exact Int32.add_zero _ | (exfalso; simp_all [-Int32.not_lt, -Int32.not_le]; done)) | (simp only [cutN_s]; simp_all [-Int32.not_lt, -Int32.not_le]; done))
  have hl2 : lv_has ls 7 [(0, .ref (ad 0 0)), (1, .ref (ad 16 i)), (2, .int (cutN σ (fun y => if ¬ σ 21 y = 119 ∧ b_ahead σ (nI y) (nI i) = true then 1 else 0) (0))), (3, .ref (ad 3 0)), (4, .int 24), (5, .int (nI (0)))] := by
    rw [e_13, e_14]
    exact lv_sub hl [4, 5, 3, 2, 1, 0] rfl
  exact lp14 (24 - 0 + 1) (0) (Nat.zero_le _) (Nat.lt_succ_self _) ls hl2
set_option maxHeartbeats 4000000 in
set_option maxRecDepth 100000 in
theorem qX6_daysLate (la : Launch) (g : EG) (ad : Nat → Nat → Nat) (σ : Sg) (u : Nat → Int64) (τ : Sg) (hI : INV σ) (lo : Nat) (hA : XA lo ad σ) (o : Nat) (ho : o < nO σ) : Met la yX6_daysLate wsX6_daysLate ({ frames := 1, cells := 0, slots := 0, locals := 30 } : Room) (va_Pc [.ref (ad 0 0), .ref (ad 15 o)] (fun U => XR g ad σ u τ U.heap ∧ KK g U)) (QR (.returned (some (.int (f_late σ (nI o)))))) 0 0 (fun _ => False) := by
  refine Met.ofW (cc := cX6_daysLate) (maxL := 7) (ret := (some .int)) (by decide) rfl ?_
  intro p e s m args below meth c s₁ B hml hv
  obtain ⟨rfl, hX, hK⟩ := hv
  have hx := B.exec
  have hb := B.bytes
  have hr := B.returns
  have hts := atoms_spec (ws := wsX6_daysLate) B.pre
  have hown : s.vm.findClass RX6 = some m.cls := findClass_of_methodNamed B.named
  have hlocks := B.notSynchronized
  have hinX0 : ∀ w ∈ wsX00, w ∈ wsX6_daysLate := by decide +kernel
  have hinX1 : ∀ w ∈ wsX10, w ∈ wsX6_daysLate := by decide +kernel
  have hinX6 : ∀ w ∈ wsX60, w ∈ wsX6_daysLate := by decide +kernel
  have lk147 := hts (.fieldLink RX6 147 "DyehouseLedger$Lot" "state" "C") (by decide +kernel)
  have lk155 := hts (.fieldLink RX6 155 "DyehouseLedger$Lot" "clockThen" "I") (by decide +kernel)
  have lk23 := hts (.fieldLink RX6 23 "DyehouseLedger" "allLots" "[LDyehouseLedger$Lot;") (by decide +kernel)
  have lk236 := hts (.fieldLink RX6 236 "DyehouseLedger$Lot" "order" "LDyehouseLedger$Order;") (by decide +kernel)
  have lk300 := hts (.fieldLink RX6 300 "DyehouseLedger$Order" "day" "I") (by decide +kernel)
  have mcmax := hts (.code Lib.Math.max.name Lib.Math.max.code 2 (some .int)) (by decide +kernel)
  have mimax := hts (.initialized "java/lang/Math") (by decide +kernel)
  have ml247 := hts (.methodLink RX6 247 Lib.Math.max.name) (by decide +kernel)
  have msmax := hts (.static Lib.Math.max.name) (by decide +kernel)
  have hl := lv_entry ([.ref (ad 0 0), .ref (ad 15 o)]) (n := 7) (Nat.le_of_ble_eq_true rfl)
  rw [lg_entry_eq]
  generalize (lg_sl ([.ref (ad 0 0), .ref (ad 15 o)]) ++ List.replicate (7 - (lg_sl ([.ref (ad 0 0), .ref (ad 15 o)])).length) Slot.unset).toArray = ls at hl ⊢
  have hl : lv_has ls 7 [(0, .ref (ad 0 0)), (1, .ref (ad 15 o))] := hl
  have hbL := hI.l.1
  have hbO := hI.o.1
  have hbV := hI.v.1
  refine lv_iconst (v := 0) hx hb dX6_daysLate_0 (by decide) ?_
  refine lv_istore_n (lv' := [(2, .int 0), (0, .ref (ad 0 0)), (1, .ref (ad 15 o))]) hx hb dX6_daysLate_1 rfl hl (by decide) rfl (fun ls hl => ?_)
  refine lv_aload_n hx hb dX6_daysLate_2 rfl (lv_at hl 1 rfl) ?_
  refine x_get (K := 0) (i := 0) (v := .ref (ad 3 0)) hx hb hts hinX6 hown hK hX (show 0 < 1 from Nat.zero_lt_one) 2 rfl rfl (by decide) rfl lk23 rfl dX6_daysLate_3 ?_
  refine lv_astore_n (lv' := [(3, .ref (ad 3 0)), (2, .int 0), (0, .ref (ad 0 0)), (1, .ref (ad 15 o))]) hx hb dX6_daysLate_6 rfl hl (by decide) rfl (fun ls hl => ?_)
  refine lv_aload_n hx hb dX6_daysLate_7 rfl (lv_at hl 0 rfl) ?_
  refine x_alen (K := 3) (t0 := 3) (v := 24) hx hb hK hX (show 0 < 1 from Nat.zero_lt_one) rfl rfl rfl dX6_daysLate_8 ?_
  refine lv_istore (lv' := [(4, .int 24), (3, .ref (ad 3 0)), (2, .int 0), (0, .ref (ad 0 0)), (1, .ref (ad 15 o))]) hx hb dX6_daysLate_9 hl (by decide) rfl (fun ls hl => ?_)
  refine lv_iconst (v := 0) hx hb dX6_daysLate_11 (by decide) ?_
  refine lv_istore (lv' := [(5, .int 0), (4, .int 24), (3, .ref (ad 3 0)), (2, .int 0), (0, .ref (ad 0 0)), (1, .ref (ad 15 o))]) hx hb dX6_daysLate_12 hl (by decide) rfl (fun ls hl => ?_)
  have lp14 : ∀ (n9 : Nat) (j : Nat), (j ≤ 24) → 24 - j < n9 → ∀ (ls : Array Slot), lv_has ls 7 [(0, .ref (ad 0 0)), (1, .ref (ad 15 o)), (2, .int (clkF σ o j)), (3, .ref (ad 3 0)), (4, .int 24), (5, .int (nI j))] → W p la e ({ frames := 1, cells := 0, slots := 0, locals := 30 } : Room) s m ([.ref (ad 0 0), .ref (ad 15 o)] : List Value).toArray below meth c s.heap [] 0 0 (MQ below (QR (.returned (some (.int (f_late σ (nI o)))))) ([.ref (ad 0 0), .ref (ad 15 o)] : List Value).toArray s 0 0 (fun _ => False)) (F0 m 14 ls []) := by
    intro n9_14
    induction n9_14 with
    | zero => intro j _ h9 ; exact absurd h9 (Nat.not_lt_zero _)
    | succ n9_14 ih_14 =>
      intro j hj h9 ls hl
      refine lv_iload hx hb dX6_daysLate_14 (lv_at hl 5 rfl) ?_
      refine lv_iload hx hb dX6_daysLate_16 (lv_at hl 4 rfl) ?_
      refine lv_icmp_ge (tgt := 67) hx hb dX6_daysLate_18 (by decide) (fun c_1 => ?_) (fun c_1 => ?_)
      · replace c_1 := Int32.not_lt.mpr c_1
        obtain rfl : j = 24 := ge24 hj c_1
        refine lv_iconst (v := 0) hx hb dX6_daysLate_67 (by decide) ?_
        refine lv_iload_n hx hb dX6_daysLate_68 rfl (lv_at hl 2 rfl) ?_
        refine lv_bipush (v := 24) hx hb dX6_daysLate_69 (by decide) ?_
        refine lv_idiv hx hb dX6_daysLate_71 (by decide) ?_
        refine lv_aload_n hx hb dX6_daysLate_72 rfl (lv_at hl 1 rfl) ?_
        refine x_get (K := 15) (i := o) (v := .int (σ 12 o)) hx hb hts hinX1 hown hK hX ho 3 rfl rfl (by decide) rfl lk300 rfl dX6_daysLate_73 ?_
        refine lv_isub hx hb dX6_daysLate_76 ?_
        refine va_mmax hx hb (hml.trans hl.1.symm) hown ml247 msmax mimax mcmax (Nat.le_of_ble_eq_true rfl) (Nat.le_of_ble_eq_true rfl) (Nat.zero_le _) (Nat.zero_le _) dX6_daysLate_77 ?_
        exact W.iret (v := (if 0 < (((clkF σ o 24) / 24) - (σ 12 o)) then (((clkF σ o 24) / 24) - (σ 12 o)) else 0)) hx hb hr (fun t ht9 hW => ⟨congrArg (fun z => Outcome.returned (some (Value.int z))) (lateNI hI ho).symm, ht9⟩) (fun _ h => nomatch h) dX6_daysLate_80
      · replace c_1 := Int32.not_le.mp c_1
        have hj1 : j < 24 := lt24 hj c_1
        refine lv_aload_n hx hb dX6_daysLate_21 rfl (lv_at hl 3 rfl) ?_
        refine lv_iload hx hb dX6_daysLate_22 (lv_at hl 5 rfl) ?_
        by_cases z_2 : j < nL σ
        · refine x_aald (K := 3) (t0 := 3) (C := RX0) (n := 24) (f := refA ad 16 (nL σ)) (j := (nI j)) (v := .ref (ad 16 j)) hx hb hK hX (show 0 < 1 from Nat.zero_lt_one) rfl rfl (vin_nI hj1 (by decide)) (by rw [(ti_nI (by omega))]; exact refA_in z_2) dX6_daysLate_24 ?_
          refine lv_astore (lv' := [(6, .ref (ad 16 j)), (0, .ref (ad 0 0)), (1, .ref (ad 15 o)), (2, .int (clkF σ o j)), (3, .ref (ad 3 0)), (4, .int 24), (5, .int (nI j))]) hx hb dX6_daysLate_25 hl (by decide) rfl (fun ls hl => ?_)
          refine lv_aload hx hb dX6_daysLate_27 (lv_at hl 0 rfl) ?_
          refine lv_ifnull hx hb dX6_daysLate_29 ?_
          refine lv_aload hx hb dX6_daysLate_32 (lv_at hl 0 rfl) ?_
          refine x_get (K := 16) (i := j) (v := .ref (ad 15 (ti (σ 14 j)))) hx hb hts hinX0 hown hK hX z_2 1 rfl rfl (by decide) rfl lk236 rfl dX6_daysLate_34 ?_
          refine lv_aload_n hx hb dX6_daysLate_37 rfl (lv_at hl 2 rfl) ?_
          refine x_acmp_ne (tgt := 61) hx hb dX6_daysLate_38 (by decide) (fun c_3 => ?_) (fun c_3 => ?_)
          · replace c_3 := fun q => c_3 ((xa_iff hA (K := 15) (vin_lt (hI.2.2.1 _ z_2)) ho).mpr q)
            replace c_3 : ¬ (σ 14 j) = nI o := fun q => c_3 ((ti_eq (vin_mono (hI.2.2.1 _ z_2) hI.o.1) (by decide)).mpr q)
            refine lv_iinc (v := ((nI j) + 1)) (lv' := [(5, .int ((nI j) + 1)), (6, .ref (ad 16 j)), (0, .ref (ad 0 0)), (1, .ref (ad 15 o)), (2, .int (clkF σ o j)), (3, .ref (ad 3 0)), (4, .int 24)]) hx hb dX6_daysLate_61 hl (k := 6) rfl rfl (by decide) rfl (fun ls hl => ?_)
            refine lv_goto (tgt := 14) hx hb dX6_daysLate_64 (by decide) ?_
            have e_4 : ((clkF σ o (j + 1)) : Int32) = (clkF σ o j) := (by first | rfl | (simp only [clkF_s, clSt]; (repeat' split) <;> first | rfl | contradiction | exact Int32.add_zero _ | (exfalso; simp_all [-Int32.not_lt, -Int32.not_le]; done)) | (simp only [clkF_s, clSt]; simp_all [-Int32.not_lt, -Int32.not_le]; done))
            have e_5 : ((nI (j + 1)) : Int32) = ((nI j) + 1) := (nI_1 j).symm
            have hl2 : lv_has ls 7 [(0, .ref (ad 0 0)), (1, .ref (ad 15 o)), (2, .int (clkF σ o (j + 1))), (3, .ref (ad 3 0)), (4, .int 24), (5, .int (nI (j + 1)))] := by
              rw [e_4, e_5]
              exact lv_sub hl [2, 3, 4, 5, 6, 0] rfl
            exact ih_14 (j + 1) (by omega) (by omega) ls hl2
          · replace c_3 := (xa_iff hA (K := 15) (vin_lt (hI.2.2.1 _ z_2)) ho).mp c_3
            replace c_3 := (ti_eq (vin_mono (hI.2.2.1 _ z_2) hI.o.1) (by decide)).mp c_3
            refine lv_aload hx hb dX6_daysLate_41 (lv_at hl 0 rfl) ?_
            refine x_get (K := 16) (i := j) (v := .int (σ 21 j)) hx hb hts hinX0 hown hK hX z_2 4 rfl rfl (by decide) rfl lk147 rfl dX6_daysLate_43 ?_
            refine lv_bipush (v := 119) hx hb dX6_daysLate_46 (by decide) ?_
            refine lv_icmp_eq (tgt := 61) hx hb dX6_daysLate_48 (by decide) (fun c_6 => ?_) (fun c_6 => ?_)
            · refine lv_iinc (v := ((nI j) + 1)) (lv' := [(5, .int ((nI j) + 1)), (6, .ref (ad 16 j)), (0, .ref (ad 0 0)), (1, .ref (ad 15 o)), (2, .int (clkF σ o j)), (3, .ref (ad 3 0)), (4, .int 24)]) hx hb dX6_daysLate_61 hl (k := 6) rfl rfl (by decide) rfl (fun ls hl => ?_)
              refine lv_goto (tgt := 14) hx hb dX6_daysLate_64 (by decide) ?_
              have e_7 : ((clkF σ o (j + 1)) : Int32) = (clkF σ o j) := (by first | rfl | (simp only [clkF_s, clSt]; (repeat' split) <;> first | rfl | contradiction | exact Int32.add_zero _ | (exfalso; simp_all [-Int32.not_lt, -Int32.not_le]; done)) | (simp only [clkF_s, clSt]; simp_all [-Int32.not_lt, -Int32.not_le]; done))
              have e_8 : ((nI (j + 1)) : Int32) = ((nI j) + 1) := (nI_1 j).symm
              have hl2 : lv_has ls 7 [(0, .ref (ad 0 0)), (1, .ref (ad 15 o)), (2, .int (clkF σ o (j + 1))), (3, .ref (ad 3 0)), (4, .int 24), (5, .int (nI (j + 1)))] := by
                rw [e_7, e_8]
                exact lv_sub hl [2, 3, 4, 5, 6, 0] rfl
              exact ih_14 (j + 1) (by omega) (by omega) ls hl2
            · refine lv_iload_n hx hb dX6_daysLate_51 rfl (lv_at hl 3 rfl) ?_
              refine lv_aload hx hb dX6_daysLate_52 (lv_at hl 0 rfl) ?_
              refine x_get (K := 16) (i := j) (v := .int (σ 18 j)) hx hb hts hinX0 hown hK hX z_2 6 rfl rfl (by decide) rfl lk155 rfl dX6_daysLate_54 ?_
              refine va_mmax hx hb (hml.trans hl.1.symm) hown ml247 msmax mimax mcmax (Nat.le_of_ble_eq_true rfl) (Nat.le_of_ble_eq_true rfl) (Nat.zero_le _) (Nat.zero_le _) dX6_daysLate_57 ?_
              refine lv_istore_n (lv' := [(2, .int (if (clkF σ o j) < (σ 18 j) then (σ 18 j) else (clkF σ o j))), (6, .ref (ad 16 j)), (0, .ref (ad 0 0)), (1, .ref (ad 15 o)), (3, .ref (ad 3 0)), (4, .int 24), (5, .int (nI j))]) hx hb dX6_daysLate_60 rfl hl (by decide) rfl (fun ls hl => ?_)
              refine lv_iinc (v := ((nI j) + 1)) (lv' := [(5, .int ((nI j) + 1)), (2, .int (if (clkF σ o j) < (σ 18 j) then (σ 18 j) else (clkF σ o j))), (6, .ref (ad 16 j)), (0, .ref (ad 0 0)), (1, .ref (ad 15 o)), (3, .ref (ad 3 0)), (4, .int 24)]) hx hb dX6_daysLate_61 hl (k := 6) rfl rfl (by decide) rfl (fun ls hl => ?_)
              refine lv_goto (tgt := 14) hx hb dX6_daysLate_64 (by decide) ?_
              have e_9 : ((clkF σ o (j + 1)) : Int32) = (if (clkF σ o j) < (σ 18 j) then (σ 18 j) else (clkF σ o j)) := (by first | rfl | (simp only [clkF_s, clSt]; (repeat' split) <;> first | rfl | contradiction | exact Int32.add_zero _ | (exfalso; simp_all [-Int32.not_lt, -Int32.not_le]; done)) | (simp only [clkF_s, clSt]; simp_all [-Int32.not_lt, -Int32.not_le]; done))
              have e_10 : ((nI (j + 1)) : Int32) = ((nI j) + 1) := (nI_1 j).symm
              have hl2 : lv_has ls 7 [(0, .ref (ad 0 0)), (1, .ref (ad 15 o)), (2, .int (clkF σ o (j + 1))), (3, .ref (ad 3 0)), (4, .int 24), (5, .int (nI (j + 1)))] := by
                rw [e_9, e_10]
                exact lv_sub hl [3, 4, 1, 5, 6, 0] rfl
              exact ih_14 (j + 1) (by omega) (by omega) ls hl2
        · refine x_aald (K := 3) (t0 := 3) (C := RX0) (n := 24) (f := refA ad 16 (nL σ)) (j := (nI j)) (v := .null) hx hb hK hX (show 0 < 1 from Nat.zero_lt_one) rfl rfl (vin_nI hj1 (by decide)) (by rw [(ti_nI (by omega))]; exact refA_no z_2) dX6_daysLate_24 ?_
          refine lv_astoreN (lv' := [(6, .null), (0, .ref (ad 0 0)), (1, .ref (ad 15 o)), (2, .int (clkF σ o j)), (3, .ref (ad 3 0)), (4, .int 24), (5, .int (nI j))]) hx hb dX6_daysLate_25 hl (by decide) rfl (fun ls hl => ?_)
          refine lv_aloadN hx hb dX6_daysLate_27 (lv_at hl 0 rfl) ?_
          refine lv_ifnullN (tgt := 61) hx hb dX6_daysLate_29 (by decide) ?_
          refine lv_iinc (v := ((nI j) + 1)) (lv' := [(5, .int ((nI j) + 1)), (6, .null), (0, .ref (ad 0 0)), (1, .ref (ad 15 o)), (2, .int (clkF σ o j)), (3, .ref (ad 3 0)), (4, .int 24)]) hx hb dX6_daysLate_61 hl (k := 6) rfl rfl (by decide) rfl (fun ls hl => ?_)
          refine lv_goto (tgt := 14) hx hb dX6_daysLate_64 (by decide) ?_
          have e_11 : ((clkF σ o (j + 1)) : Int32) = (clkF σ o j) := (by first | rfl | (simp only [clkF_s, clSt]; (repeat' split) <;> first | rfl | contradiction | exact Int32.add_zero _ | (exfalso; simp_all [-Int32.not_lt, -Int32.not_le]; done)) | (simp only [clkF_s, clSt]; simp_all [-Int32.not_lt, -Int32.not_le]; done))
          have e_12 : ((nI (j + 1)) : Int32) = ((nI j) + 1) := (nI_1 j).symm
          have hl2 : lv_has ls 7 [(0, .ref (ad 0 0)), (1, .ref (ad 15 o)), (2, .int (clkF σ o (j + 1))), (3, .ref (ad 3 0)), (4, .int 24), (5, .int (nI (j + 1)))] := by
            rw [e_11, e_12]
            exact lv_sub hl [2, 3, 4, 5, 6, 0] rfl
          exact ih_14 (j + 1) (by omega) (by omega) ls hl2
  have e_13 : ((clkF σ o (0)) : Int32) = 0 := (by first | rfl | (simp only [clkF_s, clSt]; (repeat' split) <;> first | rfl | contradiction | exact Int32.add_zero _ | (exfalso; simp_all [-Int32.not_lt, -Int32.not_le]; done)) | (simp only [clkF_s, clSt]; simp_all [-Int32.not_lt, -Int32.not_le]; done))
  have e_14 : ((nI (0)) : Int32) = 0 := (by first | rfl | (simp only [clkF_s, clSt]; (repeat' split) <;> first | rfl | contradiction | exact Int32.add_zero _ | (exfalso; simp_all [-Int32.not_lt, -Int32.not_le]; done)) | (simp only [clkF_s, clSt]; simp_all [-Int32.not_lt, -Int32.not_le]; done))
  have hl2 : lv_has ls 7 [(0, .ref (ad 0 0)), (1, .ref (ad 15 o)), (2, .int (clkF σ o (0))), (3, .ref (ad 3 0)), (4, .int 24), (5, .int (nI (0)))] := by
    rw [e_13, e_14]
    exact lv_sub hl [4, 5, 3, 2, 1, 0] rfl
  exact lp14 (24 - 0 + 1) (0) (Nat.zero_le _) (Nat.lt_succ_self _) ls hl2
set_option maxHeartbeats 4000000 in
set_option maxRecDepth 100000 in
theorem qX6_amountDue (la : Launch) (g : EG) (ad : Nat → Nat → Nat) (σ : Sg) (u : Nat → Int64) (τ : Sg) (hI : INV σ) (lo : Nat) (hA : XA lo ad σ) (o : Nat) (ho : o < nO σ) : Met la yX6_amountDue wsX6_amountDue ({ frames := 2, cells := 0, slots := 0, locals := 56 } : Room) (va_Pc [.ref (ad 0 0), .ref (ad 15 o)] (fun U => XR g ad σ u τ U.heap ∧ KK g U)) (QR (.returned (some (.int (f_worth σ (nI o)))))) 0 0 (fun _ => False) := by
  refine Met.ofW (cc := cX6_amountDue) (maxL := 7) (ret := (some .int)) (by decide) rfl ?_
  intro p e s m args below meth c s₁ B hml hv
  obtain ⟨rfl, hX, hK⟩ := hv
  have hx := B.exec
  have hb := B.bytes
  have hr := B.returns
  have hts := atoms_spec (ws := wsX6_amountDue) B.pre
  have hown : s.vm.findClass RX6 = some m.cls := findClass_of_methodNamed B.named
  have hlocks := B.notSynchronized
  have hinX0 : ∀ w ∈ wsX00, w ∈ wsX6_amountDue := by decide +kernel
  have hinX1 : ∀ w ∈ wsX10, w ∈ wsX6_amountDue := by decide +kernel
  have hinX6 : ∀ w ∈ wsX60, w ∈ wsX6_amountDue := by decide +kernel
  have lk188 := hts (.fieldLink RX6 188 "DyehouseLedger$Lot" "weight" "I") (by decide +kernel)
  have lk23 := hts (.fieldLink RX6 23 "DyehouseLedger" "allLots" "[LDyehouseLedger$Lot;") (by decide +kernel)
  have lk303 := hts (.fieldLink RX6 303 "DyehouseLedger$Order" "price" "I") (by decide +kernel)
  have mcmax := hts (.code Lib.Math.max.name Lib.Math.max.code 2 (some .int)) (by decide +kernel)
  have mimax := hts (.initialized "java/lang/Math") (by decide +kernel)
  have ml247 := hts (.methodLink RX6 247 Lib.Math.max.name) (by decide +kernel)
  have msmax := hts (.static Lib.Math.max.name) (by decide +kernel)
  have hl := lv_entry ([.ref (ad 0 0), .ref (ad 15 o)]) (n := 7) (Nat.le_of_ble_eq_true rfl)
  rw [lg_entry_eq]
  generalize (lg_sl ([.ref (ad 0 0), .ref (ad 15 o)]) ++ List.replicate (7 - (lg_sl ([.ref (ad 0 0), .ref (ad 15 o)])).length) Slot.unset).toArray = ls at hl ⊢
  have hl : lv_has ls 7 [(0, .ref (ad 0 0)), (1, .ref (ad 15 o))] := hl
  have hbL := hI.l.1
  have hbO := hI.o.1
  have hbV := hI.v.1
  refine lv_iconst (v := 0) hx hb dX6_amountDue_0 (by decide) ?_
  refine lv_istore_n (lv' := [(2, .int 0), (0, .ref (ad 0 0)), (1, .ref (ad 15 o))]) hx hb dX6_amountDue_1 rfl hl (by decide) rfl (fun ls hl => ?_)
  refine lv_aload_n hx hb dX6_amountDue_2 rfl (lv_at hl 1 rfl) ?_
  refine x_get (K := 0) (i := 0) (v := .ref (ad 3 0)) hx hb hts hinX6 hown hK hX (show 0 < 1 from Nat.zero_lt_one) 2 rfl rfl (by decide) rfl lk23 rfl dX6_amountDue_3 ?_
  refine lv_astore_n (lv' := [(3, .ref (ad 3 0)), (2, .int 0), (0, .ref (ad 0 0)), (1, .ref (ad 15 o))]) hx hb dX6_amountDue_6 rfl hl (by decide) rfl (fun ls hl => ?_)
  refine lv_aload_n hx hb dX6_amountDue_7 rfl (lv_at hl 0 rfl) ?_
  refine x_alen (K := 3) (t0 := 3) (v := 24) hx hb hK hX (show 0 < 1 from Nat.zero_lt_one) rfl rfl rfl dX6_amountDue_8 ?_
  refine lv_istore (lv' := [(4, .int 24), (3, .ref (ad 3 0)), (2, .int 0), (0, .ref (ad 0 0)), (1, .ref (ad 15 o))]) hx hb dX6_amountDue_9 hl (by decide) rfl (fun ls hl => ?_)
  refine lv_iconst (v := 0) hx hb dX6_amountDue_11 (by decide) ?_
  refine lv_istore (lv' := [(5, .int 0), (4, .int 24), (3, .ref (ad 3 0)), (2, .int 0), (0, .ref (ad 0 0)), (1, .ref (ad 15 o))]) hx hb dX6_amountDue_12 hl (by decide) rfl (fun ls hl => ?_)
  have lp14 : ∀ (n9 : Nat) (j : Nat), (j ≤ 24) → 24 - j < n9 → ∀ (ls : Array Slot), lv_has ls 7 [(0, .ref (ad 0 0)), (1, .ref (ad 15 o)), (2, .int (cutN σ (fun y => if σ 14 y = nI o ∧ σ 21 y = 112 then σ 15 y else 0) j)), (3, .ref (ad 3 0)), (4, .int 24), (5, .int (nI j))] → W p la e ({ frames := 2, cells := 0, slots := 0, locals := 56 } : Room) s m ([.ref (ad 0 0), .ref (ad 15 o)] : List Value).toArray below meth c s.heap [] 0 0 (MQ below (QR (.returned (some (.int (f_worth σ (nI o)))))) ([.ref (ad 0 0), .ref (ad 15 o)] : List Value).toArray s 0 0 (fun _ => False)) (F0 m 14 ls []) := by
    intro n9_14
    induction n9_14 with
    | zero => intro j _ h9 ; exact absurd h9 (Nat.not_lt_zero _)
    | succ n9_14 ih_14 =>
      intro j hj h9 ls hl
      refine lv_iload hx hb dX6_amountDue_14 (lv_at hl 5 rfl) ?_
      refine lv_iload hx hb dX6_amountDue_16 (lv_at hl 4 rfl) ?_
      refine lv_icmp_ge (tgt := 55) hx hb dX6_amountDue_18 (by decide) (fun c_1 => ?_) (fun c_1 => ?_)
      · replace c_1 := Int32.not_lt.mpr c_1
        obtain rfl : j = 24 := ge24 hj c_1
        refine lv_iconst (v := 0) hx hb dX6_amountDue_55 (by decide) ?_
        refine lv_iload_n hx hb dX6_amountDue_56 rfl (lv_at hl 2 rfl) ?_
        refine lv_aload_n hx hb dX6_amountDue_57 rfl (lv_at hl 1 rfl) ?_
        refine x_get (K := 15) (i := o) (v := .int (σ 13 o)) hx hb hts hinX1 hown hK hX ho 4 rfl rfl (by decide) rfl lk303 rfl dX6_amountDue_58 ?_
        refine lv_imul hx hb dX6_amountDue_61 ?_
        refine lv_bipush (v := 100) hx hb dX6_amountDue_62 (by decide) ?_
        refine lv_aload_n hx hb dX6_amountDue_64 rfl (lv_at hl 0 rfl) ?_
        refine lv_aload_n hx hb dX6_amountDue_65 rfl (lv_at hl 1 rfl) ?_
        refine xc_ro (n := 1) (K := 0) (i := 0) (As := [.ref (ad 15 o)]) (rest := [.int 100, .int ((cutN σ (fun y => if σ 14 y = nI o ∧ σ 21 y = 112 then σ 15 y else 0) 24) * (σ 13 o)), .int 0]) (v := [.int (f_late σ (nI o))]) ⟨hx, hb, hml, hown, hts⟩ hK hX (show 0 < 1 from Nat.zero_lt_one) rfl rfl (qX6_daysLate la g ad σ u τ hI lo hA o ho) gX6_amountDue_X6_daysLate rfl rfl rfl (by decide +kernel) ⟨Nat.le_of_ble_eq_true rfl, Nat.le_of_ble_eq_true rfl⟩ rfl hl.1 rfl (Nat.le_of_ble_eq_true rfl) dX6_amountDue_66 ⟨Nat.zero_le _, Nat.zero_le _⟩ rfl ?_
        refine lv_imul hx hb dX6_amountDue_69 ?_
        refine lv_isub hx hb dX6_amountDue_70 ?_
        refine va_mmax hx hb (hml.trans hl.1.symm) hown ml247 msmax mimax mcmax (Nat.le_of_ble_eq_true rfl) (Nat.le_of_ble_eq_true rfl) (Nat.zero_le _) (Nat.zero_le _) dX6_amountDue_71 ?_
        exact W.iret (v := (if 0 < (((cutN σ (fun y => if σ 14 y = nI o ∧ σ 21 y = 112 then σ 15 y else 0) 24) * (σ 13 o)) - (100 * (f_late σ (nI o)))) then (((cutN σ (fun y => if σ 14 y = nI o ∧ σ 21 y = 112 then σ 15 y else 0) 24) * (σ 13 o)) - (100 * (f_late σ (nI o)))) else 0)) hx hb hr (fun t ht9 hW => ⟨congrArg (fun z => Outcome.returned (some (Value.int z))) (worthNI hI ho).symm, ht9⟩) (fun _ h => nomatch h) dX6_amountDue_74
      · replace c_1 := Int32.not_le.mp c_1
        have hj1 : j < 24 := lt24 hj c_1
        refine lv_aload_n hx hb dX6_amountDue_21 rfl (lv_at hl 3 rfl) ?_
        refine lv_iload hx hb dX6_amountDue_22 (lv_at hl 5 rfl) ?_
        by_cases z_2 : j < nL σ
        · refine x_aald (K := 3) (t0 := 3) (C := RX0) (n := 24) (f := refA ad 16 (nL σ)) (j := (nI j)) (v := .ref (ad 16 j)) hx hb hK hX (show 0 < 1 from Nat.zero_lt_one) rfl rfl (vin_nI hj1 (by decide)) (by rw [(ti_nI (by omega))]; exact refA_in z_2) dX6_amountDue_24 ?_
          refine lv_astore (lv' := [(6, .ref (ad 16 j)), (0, .ref (ad 0 0)), (1, .ref (ad 15 o)), (2, .int (cutN σ (fun y => if σ 14 y = nI o ∧ σ 21 y = 112 then σ 15 y else 0) j)), (3, .ref (ad 3 0)), (4, .int 24), (5, .int (nI j))]) hx hb dX6_amountDue_25 hl (by decide) rfl (fun ls hl => ?_)
          refine lv_aload hx hb dX6_amountDue_27 (lv_at hl 0 rfl) ?_
          refine lv_ifnull hx hb dX6_amountDue_29 ?_
          refine lv_aload hx hb dX6_amountDue_32 (lv_at hl 0 rfl) ?_
          refine lv_aload_n hx hb dX6_amountDue_34 rfl (lv_at hl 2 rfl) ?_
          refine xc_ro (n := 1) (K := 16) (i := j) (As := [.ref (ad 15 o)]) (rest := []) (v := [.int (if σ 14 j = nI o ∧ σ 21 j = 112 then 1 else 0)]) ⟨hx, hb, hml, hown, hts⟩ hK hX z_2 rfl rfl (qX0_isPassedOf la g ad σ u τ hI lo hA j z_2 o ho) gX6_amountDue_X0_isPassedOf rfl rfl rfl (by decide +kernel) ⟨Nat.le_of_ble_eq_true rfl, Nat.le_of_ble_eq_true rfl⟩ rfl hl.1 rfl (Nat.le_of_ble_eq_true rfl) dX6_amountDue_35 ⟨Nat.zero_le _, Nat.zero_le _⟩ rfl ?_
          refine br_if_eq (c9 := σ 14 j = nI o ∧ σ 21 j = 112) (tgt := 49) hx hb dX6_amountDue_38 (by decide) (fun c_3 => ?_) (fun c_3 => ?_)
          · refine lv_iinc (v := ((nI j) + 1)) (lv' := [(5, .int ((nI j) + 1)), (6, .ref (ad 16 j)), (0, .ref (ad 0 0)), (1, .ref (ad 15 o)), (2, .int (cutN σ (fun y => if σ 14 y = nI o ∧ σ 21 y = 112 then σ 15 y else 0) j)), (3, .ref (ad 3 0)), (4, .int 24)]) hx hb dX6_amountDue_49 hl (k := 6) rfl rfl (by decide) rfl (fun ls hl => ?_)
            refine lv_goto (tgt := 14) hx hb dX6_amountDue_52 (by decide) ?_
            have e_4 : ((cutN σ (fun y => if σ 14 y = nI o ∧ σ 21 y = 112 then σ 15 y else 0) (j + 1)) : Int32) = (cutN σ (fun y => if σ 14 y = nI o ∧ σ 21 y = 112 then σ 15 y else 0) j) := (by first | rfl | (simp only [cutN_s]; (repeat' split) <;> first | rfl | contradiction | exact Int32.add_zero _ | (exfalso; simp_all [-Int32.not_lt, -Int32.not_le]; done)) | (simp only [cutN_s]; simp_all [-Int32.not_lt, -Int32.not_le]; done))
            have e_5 : ((nI (j + 1)) : Int32) = ((nI j) + 1) := (nI_1 j).symm
            have hl2 : lv_has ls 7 [(0, .ref (ad 0 0)), (1, .ref (ad 15 o)), (2, .int (cutN σ (fun y => if σ 14 y = nI o ∧ σ 21 y = 112 then σ 15 y else 0) (j + 1))), (3, .ref (ad 3 0)), (4, .int 24), (5, .int (nI (j + 1)))] := by
              rw [e_4, e_5]
              exact lv_sub hl [2, 3, 4, 5, 6, 0] rfl
            exact ih_14 (j + 1) (by omega) (by omega) ls hl2
          · refine lv_iload_n hx hb dX6_amountDue_41 rfl (lv_at hl 3 rfl) ?_
            refine lv_aload hx hb dX6_amountDue_42 (lv_at hl 0 rfl) ?_
            refine x_get (K := 16) (i := j) (v := .int (σ 15 j)) hx hb hts hinX0 hown hK hX z_2 2 rfl rfl (by decide) rfl lk188 rfl dX6_amountDue_44 ?_
            refine lv_iadd hx hb dX6_amountDue_47 ?_
            refine lv_istore_n (lv' := [(2, .int ((cutN σ (fun y => if σ 14 y = nI o ∧ σ 21 y = 112 then σ 15 y else 0) j) + (σ 15 j))), (6, .ref (ad 16 j)), (0, .ref (ad 0 0)), (1, .ref (ad 15 o)), (3, .ref (ad 3 0)), (4, .int 24), (5, .int (nI j))]) hx hb dX6_amountDue_48 rfl hl (by decide) rfl (fun ls hl => ?_)
            refine lv_iinc (v := ((nI j) + 1)) (lv' := [(5, .int ((nI j) + 1)), (2, .int ((cutN σ (fun y => if σ 14 y = nI o ∧ σ 21 y = 112 then σ 15 y else 0) j) + (σ 15 j))), (6, .ref (ad 16 j)), (0, .ref (ad 0 0)), (1, .ref (ad 15 o)), (3, .ref (ad 3 0)), (4, .int 24)]) hx hb dX6_amountDue_49 hl (k := 6) rfl rfl (by decide) rfl (fun ls hl => ?_)
            refine lv_goto (tgt := 14) hx hb dX6_amountDue_52 (by decide) ?_
            have e_6 : ((cutN σ (fun y => if σ 14 y = nI o ∧ σ 21 y = 112 then σ 15 y else 0) (j + 1)) : Int32) = ((cutN σ (fun y => if σ 14 y = nI o ∧ σ 21 y = 112 then σ 15 y else 0) j) + (σ 15 j)) := (by first | rfl | (simp only [cutN_s]; (repeat' split) <;> first | rfl | contradiction | exact Int32.add_zero _ | (exfalso; simp_all [-Int32.not_lt, -Int32.not_le]; done)) | (simp only [cutN_s]; simp_all [-Int32.not_lt, -Int32.not_le]; done))
            have e_7 : ((nI (j + 1)) : Int32) = ((nI j) + 1) := (nI_1 j).symm
            have hl2 : lv_has ls 7 [(0, .ref (ad 0 0)), (1, .ref (ad 15 o)), (2, .int (cutN σ (fun y => if σ 14 y = nI o ∧ σ 21 y = 112 then σ 15 y else 0) (j + 1))), (3, .ref (ad 3 0)), (4, .int 24), (5, .int (nI (j + 1)))] := by
              rw [e_6, e_7]
              exact lv_sub hl [3, 4, 1, 5, 6, 0] rfl
            exact ih_14 (j + 1) (by omega) (by omega) ls hl2
        · refine x_aald (K := 3) (t0 := 3) (C := RX0) (n := 24) (f := refA ad 16 (nL σ)) (j := (nI j)) (v := .null) hx hb hK hX (show 0 < 1 from Nat.zero_lt_one) rfl rfl (vin_nI hj1 (by decide)) (by rw [(ti_nI (by omega))]; exact refA_no z_2) dX6_amountDue_24 ?_
          refine lv_astoreN (lv' := [(6, .null), (0, .ref (ad 0 0)), (1, .ref (ad 15 o)), (2, .int (cutN σ (fun y => if σ 14 y = nI o ∧ σ 21 y = 112 then σ 15 y else 0) j)), (3, .ref (ad 3 0)), (4, .int 24), (5, .int (nI j))]) hx hb dX6_amountDue_25 hl (by decide) rfl (fun ls hl => ?_)
          refine lv_aloadN hx hb dX6_amountDue_27 (lv_at hl 0 rfl) ?_
          refine lv_ifnullN (tgt := 49) hx hb dX6_amountDue_29 (by decide) ?_
          refine lv_iinc (v := ((nI j) + 1)) (lv' := [(5, .int ((nI j) + 1)), (6, .null), (0, .ref (ad 0 0)), (1, .ref (ad 15 o)), (2, .int (cutN σ (fun y => if σ 14 y = nI o ∧ σ 21 y = 112 then σ 15 y else 0) j)), (3, .ref (ad 3 0)), (4, .int 24)]) hx hb dX6_amountDue_49 hl (k := 6) rfl rfl (by decide) rfl (fun ls hl => ?_)
          refine lv_goto (tgt := 14) hx hb dX6_amountDue_52 (by decide) ?_
          have e_8 : ((cutN σ (fun y => if σ 14 y = nI o ∧ σ 21 y = 112 then σ 15 y else 0) (j + 1)) : Int32) = (cutN σ (fun y => if σ 14 y = nI o ∧ σ 21 y = 112 then σ 15 y else 0) j) := (by first | rfl | (simp only [cutN_s]; (repeat' split) <;> first | rfl | contradiction | exact Int32.add_zero _ | (exfalso; simp_all [-Int32.not_lt, -Int32.not_le]; done)) | (simp only [cutN_s]; simp_all [-Int32.not_lt, -Int32.not_le]; done))
          have e_9 : ((nI (j + 1)) : Int32) = ((nI j) + 1) := (nI_1 j).symm
          have hl2 : lv_has ls 7 [(0, .ref (ad 0 0)), (1, .ref (ad 15 o)), (2, .int (cutN σ (fun y => if σ 14 y = nI o ∧ σ 21 y = 112 then σ 15 y else 0) (j + 1))), (3, .ref (ad 3 0)), (4, .int 24), (5, .int (nI (j + 1)))] := by
            rw [e_8, e_9]
            exact lv_sub hl [2, 3, 4, 5, 6, 0] rfl
          exact ih_14 (j + 1) (by omega) (by omega) ls hl2
  have e_10 : ((cutN σ (fun y => if σ 14 y = nI o ∧ σ 21 y = 112 then σ 15 y else 0) (0)) : Int32) = 0 := (by first | rfl | (simp only [cutN_s]; (repeat' split) <;> first | rfl | contradiction | exact Int32.add_zero _ | (exfalso; simp_all [-Int32.not_lt, -Int32.not_le]; done)) | (simp only [cutN_s]; simp_all [-Int32.not_lt, -Int32.not_le]; done))
  have e_11 : ((nI (0)) : Int32) = 0 := (by first | rfl | (simp only [cutN_s]; (repeat' split) <;> first | rfl | contradiction | exact Int32.add_zero _ | (exfalso; simp_all [-Int32.not_lt, -Int32.not_le]; done)) | (simp only [cutN_s]; simp_all [-Int32.not_lt, -Int32.not_le]; done))
  have hl2 : lv_has ls 7 [(0, .ref (ad 0 0)), (1, .ref (ad 15 o)), (2, .int (cutN σ (fun y => if σ 14 y = nI o ∧ σ 21 y = 112 then σ 15 y else 0) (0))), (3, .ref (ad 3 0)), (4, .int 24), (5, .int (nI (0)))] := by
    rw [e_10, e_11]
    exact lv_sub hl [4, 5, 3, 2, 1, 0] rfl
  exact lp14 (24 - 0 + 1) (0) (Nat.zero_le _) (Nat.lt_succ_self _) ls hl2
set_option maxHeartbeats 4000000 in
set_option maxRecDepth 100000 in
theorem qX6_recipes (la : Launch) (g : EG) (ad : Nat → Nat → Nat) (σ : Sg) (u : Nat → Int64) (τ : Sg)  : Met la yX6_recipes wsX6_recipes ({ frames := 0, cells := 0, slots := 0, locals := 0 } : Room) (va_Pc [.ref (ad 0 0)] (fun U => XR g ad σ u τ U.heap ∧ KK g U)) (QR (.returned (some (.int (σ 1 0))))) 0 0 (fun _ => False) := by
  refine Met.ofW (cc := cX6_recipes) (maxL := 1) (ret := (some .int)) (by decide) rfl ?_
  intro p e s m args below meth c s₁ B hml hv
  obtain ⟨rfl, hX, hK⟩ := hv
  have hx := B.exec
  have hb := B.bytes
  have hr := B.returns
  have hts := atoms_spec (ws := wsX6_recipes) B.pre
  have hown : s.vm.findClass RX6 = some m.cls := findClass_of_methodNamed B.named
  have hlocks := B.notSynchronized
  have hinX6 : ∀ w ∈ wsX60, w ∈ wsX6_recipes := by decide +kernel
  have lk52 := hts (.fieldLink RX6 52 "DyehouseLedger" "recipeCount" "I") (by decide +kernel)
  have hl := lv_entry ([.ref (ad 0 0)]) (n := 1) (Nat.le_of_ble_eq_true rfl)
  rw [lg_entry_eq]
  generalize (lg_sl ([.ref (ad 0 0)]) ++ List.replicate (1 - (lg_sl ([.ref (ad 0 0)])).length) Slot.unset).toArray = ls at hl ⊢
  have hl : lv_has ls 1 [(0, .ref (ad 0 0))] := hl
  refine lv_aload_n hx hb dX6_recipes_0 rfl (lv_at hl 0 rfl) ?_
  refine x_get (K := 0) (i := 0) (v := .int (σ 1 0)) hx hb hts hinX6 hown hK hX (show 0 < 1 from Nat.zero_lt_one) 7 rfl rfl (by decide) rfl lk52 rfl dX6_recipes_1 ?_
  exact W.iret (v := (σ 1 0)) hx hb hr (fun t ht9 hW => ⟨congrArg (fun z => Outcome.returned (some (Value.int z))) (by first | rfl | (simp [-Int32.not_lt, -Int32.not_le, okL, okV, okO, okR, okD, isP, shP]; done) | (simp_all [-Int32.not_lt, -Int32.not_le, okL, okV, okO, okR, okD, isP, shP]; done)), ht9⟩) (fun _ h => nomatch h) dX6_recipes_4
set_option maxHeartbeats 4000000 in
set_option maxRecDepth 100000 in
theorem qX6_lots (la : Launch) (g : EG) (ad : Nat → Nat → Nat) (σ : Sg) (u : Nat → Int64) (τ : Sg)  : Met la yX6_lots wsX6_lots ({ frames := 0, cells := 0, slots := 0, locals := 0 } : Room) (va_Pc [.ref (ad 0 0)] (fun U => XR g ad σ u τ U.heap ∧ KK g U)) (QR (.returned (some (.int (σ 3 0))))) 0 0 (fun _ => False) := by
  refine Met.ofW (cc := cX6_lots) (maxL := 1) (ret := (some .int)) (by decide) rfl ?_
  intro p e s m args below meth c s₁ B hml hv
  obtain ⟨rfl, hX, hK⟩ := hv
  have hx := B.exec
  have hb := B.bytes
  have hr := B.returns
  have hts := atoms_spec (ws := wsX6_lots) B.pre
  have hown : s.vm.findClass RX6 = some m.cls := findClass_of_methodNamed B.named
  have hlocks := B.notSynchronized
  have hinX6 : ∀ w ∈ wsX60, w ∈ wsX6_lots := by decide +kernel
  have lk95 := hts (.fieldLink RX6 95 "DyehouseLedger" "lotCount" "I") (by decide +kernel)
  have hl := lv_entry ([.ref (ad 0 0)]) (n := 1) (Nat.le_of_ble_eq_true rfl)
  rw [lg_entry_eq]
  generalize (lg_sl ([.ref (ad 0 0)]) ++ List.replicate (1 - (lg_sl ([.ref (ad 0 0)])).length) Slot.unset).toArray = ls at hl ⊢
  have hl : lv_has ls 1 [(0, .ref (ad 0 0))] := hl
  refine lv_aload_n hx hb dX6_lots_0 rfl (lv_at hl 0 rfl) ?_
  refine x_get (K := 0) (i := 0) (v := .int (σ 3 0)) hx hb hts hinX6 hown hK hX (show 0 < 1 from Nat.zero_lt_one) 9 rfl rfl (by decide) rfl lk95 rfl dX6_lots_1 ?_
  exact W.iret (v := (σ 3 0)) hx hb hr (fun t ht9 hW => ⟨congrArg (fun z => Outcome.returned (some (Value.int z))) (by first | rfl | (simp [-Int32.not_lt, -Int32.not_le, okL, okV, okO, okR, okD, isP, shP]; done) | (simp_all [-Int32.not_lt, -Int32.not_le, okL, okV, okO, okR, okD, isP, shP]; done)), ht9⟩) (fun _ h => nomatch h) dX6_lots_4
