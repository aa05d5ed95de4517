set_option maxHeartbeats 4000000 in
set_option maxRecDepth 100000 in
theorem qX2_mustBeCleaned (la : Launch) (g : EG) (ad : Nat → Nat → Nat) (σ : Sg) (u : Nat → Int64) (τ : Sg) (N : Nat) (lt cu : Nat → Int32) (wr : Nat → Nat) (hPL : PL τ N lt cu wr) (j : Nat) (hj : j < N) (l w : Int32) : Met la yX2_mustBeCleaned wsX2_mustBeCleaned ({ frames := 1, cells := 0, slots := 0, locals := 21 } : Room) (va_Pc [.ref (ad 7 0), .int (nI j), .int l, .int w] (fun U => XR g ad σ u τ U.heap ∧ KN g U)) (QR (.returned (some (.int (if ndC lt cu l w j then 1 else 0))))) 0 0 (fun _ => False) := by
  refine Met.ofW (cc := cX2_mustBeCleaned) (maxL := 4) (ret := (some .boolean)) (by decide) rfl ?_
  intro p e s m args below meth c s₁ B hml hv
  obtain ⟨rfl, hX, hN⟩ := hv
  have hK := hN.1
  have hN6 := hPL.1.1
  have hx := B.exec
  have hb := B.bytes
  have hr := B.returns
  have hts := atoms_spec (ws := wsX2_mustBeCleaned) B.pre
  have hown : s.vm.findClass RX2 = some m.cls := findClass_of_methodNamed B.named
  have hlocks := B.notSynchronized
  have hinX2 : ∀ w ∈ wsX20, w ∈ wsX2_mustBeCleaned := by decide +kernel
  have lk15 := hts (.fieldLink RX2 15 "DyehouseLedger$Plan" "lights" "[I") (by decide +kernel)
  have lk18 := hts (.fieldLink RX2 18 "DyehouseLedger$Plan" "customers" "[I") (by decide +kernel)
  have stisBarred := hts (.static yX6_isBarred) (by decide +kernel)
  have stisTooDark := hts (.static yX6_isTooDark) (by decide +kernel)
  have ti6 := hts (.initialized RX6) (by decide +kernel)
  have hl := lv_entry ([.ref (ad 7 0), .int (nI j), .int l, .int w]) (n := 4) (Nat.le_of_ble_eq_true rfl)
  rw [lg_entry_eq]
  generalize (lg_sl ([.ref (ad 7 0), .int (nI j), .int l, .int w]) ++ List.replicate (4 - (lg_sl ([.ref (ad 7 0), .int (nI j), .int l, .int w])).length) Slot.unset).toArray = ls at hl ⊢
  have hl : lv_has ls 4 [(0, .ref (ad 7 0)), (1, .int (nI j)), (2, .int l), (3, .int w)] := hl
  refine lv_iload_n hx hb dX2_mustBeCleaned_0 rfl (lv_at hl 2 rfl) ?_
  refine lv_aload_n hx hb dX2_mustBeCleaned_1 rfl (lv_at hl 0 rfl) ?_
  refine x_get (K := 7) (i := 0) (v := .ref (ad 9 0)) hx hb hts hinX2 hown hK hX (show 0 < 1 from Nat.zero_lt_one) 1 rfl rfl (by decide) rfl lk15 rfl dX2_mustBeCleaned_2 ?_
  refine lv_iload_n hx hb dX2_mustBeCleaned_5 rfl (lv_at hl 1 rfl) ?_
  refine x_iald (K := 9) (i := 0) (n := 6) (f := (τ 1)) (j := (nI j)) (x := (lt j)) hx hb hK hX Nat.zero_lt_one rfl (vin_nI (Nat.lt_of_lt_of_le hj hPL.1.1) (by decide)) ((congrArg (τ 1) (ti_nI (by omega))).trans (hPL.2 j hj).1) dX2_mustBeCleaned_6 ?_
  refine sc_roN (n := 2) (As := [.int l, .int (lt j)]) (rest := []) (v := [.int (if ¬ l = -1 ∧ l < (lt j) then 1 else 0)]) ⟨hx, hb, hml, hown, hts⟩ (qX6_isTooDark la l (lt j)) gX2_mustBeCleaned_X6_isTooDark_n92 rfl rfl rfl hN.2.1 ti6 stisTooDark (by decide +kernel) ⟨Nat.le_of_ble_eq_true rfl, Nat.le_of_ble_eq_true rfl⟩ rfl hl.1 rfl (Nat.le_of_ble_eq_true rfl) dX2_mustBeCleaned_7 ⟨Nat.zero_le _, Nat.zero_le _⟩ rfl ?_
  refine br_if_ne (c9 := ¬ l = -1 ∧ l < (lt j)) (tgt := 26) hx hb dX2_mustBeCleaned_10 (by decide) (fun c_1 => ?_) (fun c_1 => ?_)
  · refine lv_iconst (v := 1) hx hb dX2_mustBeCleaned_26 (by decide) ?_
    refine lv_goto (tgt := 31) hx hb dX2_mustBeCleaned_27 (by decide) ?_
    exact W.zret (v := 1) hx hb hr rfl (fun t ht9 hW => ⟨congrArg (fun z => Outcome.returned (some (Value.int z))) (by first | exact (if_pos (Or.inl (by assumption))).symm | exact (if_pos (Or.inr (by assumption))).symm | exact (if_neg (fun q => q.elim (by assumption) (by assumption))).symm), ht9⟩) (fun _ h => nomatch h) dX2_mustBeCleaned_31
  · refine lv_iload_n hx hb dX2_mustBeCleaned_13 rfl (lv_at hl 3 rfl) ?_
    refine lv_aload_n hx hb dX2_mustBeCleaned_14 rfl (lv_at hl 0 rfl) ?_
    refine x_get (K := 7) (i := 0) (v := .ref (ad 10 0)) hx hb hts hinX2 hown hK hX (show 0 < 1 from Nat.zero_lt_one) 2 rfl rfl (by decide) rfl lk18 rfl dX2_mustBeCleaned_15 ?_
    refine lv_iload_n hx hb dX2_mustBeCleaned_18 rfl (lv_at hl 1 rfl) ?_
    refine x_iald (K := 10) (i := 0) (n := 6) (f := (τ 2)) (j := (nI j)) (x := (cu j)) hx hb hK hX Nat.zero_lt_one rfl (vin_nI (Nat.lt_of_lt_of_le hj hPL.1.1) (by decide)) ((congrArg (τ 2) (ti_nI (by omega))).trans (hPL.2 j hj).2.1) dX2_mustBeCleaned_19 ?_
    refine sc_roN (n := 2) (As := [.int w, .int (cu j)]) (rest := []) (v := [.int (if ¬ w = -1 ∧ ¬ w = (cu j) then 1 else 0)]) ⟨hx, hb, hml, hown, hts⟩ (qX6_isBarred la w (cu j)) gX2_mustBeCleaned_X6_isBarred_n96 rfl rfl rfl hN.2.2 ti6 stisBarred (by decide +kernel) ⟨Nat.le_of_ble_eq_true rfl, Nat.le_of_ble_eq_true rfl⟩ rfl hl.1 rfl (Nat.le_of_ble_eq_true rfl) dX2_mustBeCleaned_20 ⟨Nat.zero_le _, Nat.zero_le _⟩ rfl ?_
    refine br_if_eq (c9 := ¬ w = -1 ∧ ¬ w = (cu j)) (tgt := 30) hx hb dX2_mustBeCleaned_23 (by decide) (fun c_2 => ?_) (fun c_2 => ?_)
    · refine lv_iconst (v := 0) hx hb dX2_mustBeCleaned_30 (by decide) ?_
      exact W.zret (v := 0) hx hb hr rfl (fun t ht9 hW => ⟨congrArg (fun z => Outcome.returned (some (Value.int z))) (by first | exact (if_pos (Or.inl (by assumption))).symm | exact (if_pos (Or.inr (by assumption))).symm | exact (if_neg (fun q => q.elim (by assumption) (by assumption))).symm), ht9⟩) (fun _ h => nomatch h) dX2_mustBeCleaned_31
    · refine lv_iconst (v := 1) hx hb dX2_mustBeCleaned_26 (by decide) ?_
      refine lv_goto (tgt := 31) hx hb dX2_mustBeCleaned_27 (by decide) ?_
      exact W.zret (v := 1) hx hb hr rfl (fun t ht9 hW => ⟨congrArg (fun z => Outcome.returned (some (Value.int z))) (by first | exact (if_pos (Or.inl (by assumption))).symm | exact (if_pos (Or.inr (by assumption))).symm | exact (if_neg (fun q => q.elim (by assumption) (by assumption))).symm), ht9⟩) (fun _ h => nomatch h) dX2_mustBeCleaned_31
set_option maxHeartbeats 4000000 in
set_option maxRecDepth 100000 in
theorem qX2_fewestFrom_0 (la : Launch) (g : EG) (ad : Nat → Nat → Nat) (σ : Sg) (u : Nat → Int64) (τ : Sg) (N : Nat) (lt cu : Nat → Int32) (wr : Nat → Nat) (hPL : PL τ N lt cu wr) (pl mask : Nat) (l w : Int32) (c9 b9 : Nat) (hf : pl + 0 = N) (hm9 : mask < 64) (hc9 : c9 ≤ pl) (hb9 : b9 ≤ 100) : Met la yX2_fewestFrom wsX2_fewestFrom ({ frames := 2, cells := 0, slots := 0, locals := 44 } : Room) (va_Pc [.ref (ad 7 0), .int (nI pl), .int (nI mask), .int l, .int w, .int (nI c9), .int (nI b9)] (fun U => XR g ad σ u τ U.heap ∧ KN g U)) (QR (.returned (some (.int (nI (fwF lt cu N 0 mask l w c9 b9)))))) 0 0 (fun _ => False) := by
  refine Met.ofW (cc := cX2_fewestFrom) (maxL := 10) (ret := (some .int)) (by decide) rfl ?_
  intro p e s m args below meth c s₁ B hml hv
  obtain ⟨rfl, hX, hN⟩ := hv
  have hK := hN.1
  have hN6 := hPL.1.1
  have hx := B.exec
  have hb := B.bytes
  have hr := B.returns
  have hts := atoms_spec (ws := wsX2_fewestFrom) B.pre
  have hown : s.vm.findClass RX2 = some m.cls := findClass_of_methodNamed B.named
  have hlocks := B.notSynchronized
  have hinX2 : ∀ w ∈ wsX20, w ∈ wsX2_fewestFrom := by decide +kernel
  have lk24 := hts (.fieldLink RX2 24 "DyehouseLedger$Plan" "size" "I") (by decide +kernel)
  have hl := lv_entry ([.ref (ad 7 0), .int (nI pl), .int (nI mask), .int l, .int w, .int (nI c9), .int (nI b9)]) (n := 10) (Nat.le_of_ble_eq_true rfl)
  rw [lg_entry_eq]
  generalize (lg_sl ([.ref (ad 7 0), .int (nI pl), .int (nI mask), .int l, .int w, .int (nI c9), .int (nI b9)]) ++ List.replicate (10 - (lg_sl ([.ref (ad 7 0), .int (nI pl), .int (nI mask), .int l, .int w, .int (nI c9), .int (nI b9)])).length) Slot.unset).toArray = ls at hl ⊢
  have hl : lv_has ls 10 [(0, .ref (ad 7 0)), (1, .int (nI pl)), (2, .int (nI mask)), (3, .int l), (4, .int w), (5, .int (nI c9)), (6, .int (nI b9))] := hl
  refine lv_iload hx hb dX2_fewestFrom_0 (lv_at hl 5 rfl) ?_
  refine lv_iload hx hb dX2_fewestFrom_2 (lv_at hl 6 rfl) ?_
  refine lv_icmp_lt (tgt := 10) hx hb dX2_fewestFrom_4 (by decide) (fun c_1 => ?_) (fun c_1 => ?_)
  · have hcb : c9 < b9 := (nI_ltI (by omega) (by omega)).mp c_1
    refine lv_iload_n hx hb dX2_fewestFrom_10 rfl (lv_at hl 1 rfl) ?_
    refine lv_aload_n hx hb dX2_fewestFrom_11 rfl (lv_at hl 0 rfl) ?_
    refine x_get (K := 7) (i := 0) (v := .int (nI N)) hx hb hts hinX2 hown hK hX Nat.zero_lt_one 4 rfl rfl (by decide) rfl lk24 (congrArg (fun z => some (Value.int z)) hPL.1.2) dX2_fewestFrom_12 ?_
    refine lv_icmp_ge (tgt := 24) hx hb dX2_fewestFrom_15 (by decide) (fun c_2 => ?_) (fun c_2 => ?_)
    · replace c_2 := Int32.not_lt.mpr c_2
      refine lv_iload hx hb dX2_fewestFrom_24 (lv_at hl 5 rfl) ?_
      exact W.iret (v := (nI c9)) hx hb hr (fun t ht9 hW => ⟨congrArg (fun z => Outcome.returned (some (Value.int z))) (congrArg nI (fw_zero lt cu N hcb).symm), ht9⟩) (fun _ h => nomatch h) dX2_fewestFrom_26
    · replace c_2 := Int32.not_le.mp c_2
      exact absurd ((nI_ltI (by omega) (by omega)).mp c_2) (show ¬ pl < N from by omega)
  · have hcb : b9 ≤ c9 := Nat.not_lt.mp (fun q9 => c_1 ((nI_ltI (by omega) (by omega)).mpr q9))
    refine lv_iload hx hb dX2_fewestFrom_7 (lv_at hl 6 rfl) ?_
    exact W.iret (v := (nI b9)) hx hb hr (fun t ht9 hW => ⟨congrArg (fun z => Outcome.returned (some (Value.int z))) (congrArg nI (fw_stop lt cu N hcb).symm), ht9⟩) (fun _ h => nomatch h) dX2_fewestFrom_9
set_option maxHeartbeats 4000000 in
set_option maxRecDepth 100000 in
theorem qX2_fewestFrom_s (la : Launch) (g : EG) (ad : Nat → Nat → Nat) (σ : Sg) (u : Nat → Int64) (τ : Sg) (N : Nat) (lt cu : Nat → Int32) (wr : Nat → Nat) (hPL : PL τ N lt cu wr) (f pl mask : Nat) (l w : Int32) (c9 b9 : Nat) (hf : pl + (f + 1) = N) (hm9 : mask < 64) (hc9 : c9 ≤ pl) (hb9 : b9 ≤ 100) (ih : ∀ (pl mask : Nat) (l w : Int32) (c9 b9 : Nat), pl + f = N → mask < 64 → c9 ≤ pl → b9 ≤ 100 → Met la yX2_fewestFrom wsX2_fewestFrom ({ frames := f + 2, cells := 0, slots := 0, locals := 29 * f + 44 } : Room) (va_Pc [.ref (ad 7 0), .int (nI pl), .int (nI mask), .int l, .int w, .int (nI c9), .int (nI b9)] (fun U => XR g ad σ u τ U.heap ∧ KN g U)) (QR (.returned (some (.int (nI (fwF lt cu N f mask l w c9 b9)))))) 0 0 (fun _ => False)) : Met la yX2_fewestFrom wsX2_fewestFrom ({ frames := f + 1 + 2, cells := 0, slots := 0, locals := 29 * (f + 1) + 44 } : Room) (va_Pc [.ref (ad 7 0), .int (nI pl), .int (nI mask), .int l, .int w, .int (nI c9), .int (nI b9)] (fun U => XR g ad σ u τ U.heap ∧ KN g U)) (QR (.returned (some (.int (nI (fwF lt cu N (f + 1) mask l w c9 b9)))))) 0 0 (fun _ => False) := by
  refine Met.ofW (cc := cX2_fewestFrom) (maxL := 10) (ret := (some .int)) (by decide) rfl ?_
  intro p e s m args below meth c s₁ B hml hv
  obtain ⟨rfl, hX, hN⟩ := hv
  have hK := hN.1
  have hN6 := hPL.1.1
  have hx := B.exec
  have hb := B.bytes
  have hr := B.returns
  have hts := atoms_spec (ws := wsX2_fewestFrom) B.pre
  have hown : s.vm.findClass RX2 = some m.cls := findClass_of_methodNamed B.named
  have hlocks := B.notSynchronized
  have hinX2 : ∀ w ∈ wsX20, w ∈ wsX2_fewestFrom := by decide +kernel
  have lk15 := hts (.fieldLink RX2 15 "DyehouseLedger$Plan" "lights" "[I") (by decide +kernel)
  have lk24 := hts (.fieldLink RX2 24 "DyehouseLedger$Plan" "size" "I") (by decide +kernel)
  have hl := lv_entry ([.ref (ad 7 0), .int (nI pl), .int (nI mask), .int l, .int w, .int (nI c9), .int (nI b9)]) (n := 10) (Nat.le_of_ble_eq_true rfl)
  rw [lg_entry_eq]
  generalize (lg_sl ([.ref (ad 7 0), .int (nI pl), .int (nI mask), .int l, .int w, .int (nI c9), .int (nI b9)]) ++ List.replicate (10 - (lg_sl ([.ref (ad 7 0), .int (nI pl), .int (nI mask), .int l, .int w, .int (nI c9), .int (nI b9)])).length) Slot.unset).toArray = ls at hl ⊢
  have hl : lv_has ls 10 [(0, .ref (ad 7 0)), (1, .int (nI pl)), (2, .int (nI mask)), (3, .int l), (4, .int w), (5, .int (nI c9)), (6, .int (nI b9))] := hl
  refine lv_iload hx hb dX2_fewestFrom_0 (lv_at hl 5 rfl) ?_
  refine lv_iload hx hb dX2_fewestFrom_2 (lv_at hl 6 rfl) ?_
  refine lv_icmp_lt (tgt := 10) hx hb dX2_fewestFrom_4 (by decide) (fun c_1 => ?_) (fun c_1 => ?_)
  · have hcb : c9 < b9 := (nI_ltI (by omega) (by omega)).mp c_1
    refine lv_iload_n hx hb dX2_fewestFrom_10 rfl (lv_at hl 1 rfl) ?_
    refine lv_aload_n hx hb dX2_fewestFrom_11 rfl (lv_at hl 0 rfl) ?_
    refine x_get (K := 7) (i := 0) (v := .int (nI N)) hx hb hts hinX2 hown hK hX Nat.zero_lt_one 4 rfl rfl (by decide) rfl lk24 (congrArg (fun z => some (Value.int z)) hPL.1.2) dX2_fewestFrom_12 ?_
    refine lv_icmp_ge (tgt := 24) hx hb dX2_fewestFrom_15 (by decide) (fun c_2 => ?_) (fun c_2 => ?_)
    · replace c_2 := Int32.not_lt.mpr c_2
      exact absurd ((nI_ltI (by omega) (by omega)).mpr (show pl < N from by omega)) c_2
    · replace c_2 := Int32.not_le.mp c_2
      refine lv_iload_n hx hb dX2_fewestFrom_18 rfl (lv_at hl 1 rfl) ?_
      refine lv_bipush (v := 6) hx hb dX2_fewestFrom_19 (by decide) ?_
      refine lv_icmp_lt (tgt := 27) hx hb dX2_fewestFrom_21 (by decide) (fun c_3 => ?_) (fun c_3 => ?_)
      · refine lv_iload hx hb dX2_fewestFrom_27 (lv_at hl 6 rfl) ?_
        refine lv_istore (lv' := [(7, .int (nI b9)), (0, .ref (ad 7 0)), (1, .int (nI pl)), (2, .int (nI mask)), (3, .int l), (4, .int w), (5, .int (nI c9)), (6, .int (nI b9))]) hx hb dX2_fewestFrom_29 hl (by decide) rfl (fun ls hl => ?_)
        refine lv_iconst (v := 0) hx hb dX2_fewestFrom_31 (by decide) ?_
        refine lv_istore (lv' := [(8, .int 0), (7, .int (nI b9)), (0, .ref (ad 7 0)), (1, .int (nI pl)), (2, .int (nI mask)), (3, .int l), (4, .int w), (5, .int (nI c9)), (6, .int (nI b9))]) hx hb dX2_fewestFrom_32 hl (by decide) rfl (fun ls hl => ?_)
        have lp34 : ∀ (n9 : Nat) (j : Nat), (j ≤ N) → N - j < n9 → ∀ (ls : Array Slot), lv_has ls 10 [(0, .ref (ad 7 0)), (1, .int (nI pl)), (2, .int (nI mask)), (3, .int l), (4, .int w), (5, .int (nI c9)), (6, .int (nI b9)), (7, .int (nI (fwU lt cu N f mask l w c9 b9 j))), (8, .int (nI j))] → W p la e ({ frames := f + 1 + 2, cells := 0, slots := 0, locals := 29 * (f + 1) + 44 } : Room) s m ([.ref (ad 7 0), .int (nI pl), .int (nI mask), .int l, .int w, .int (nI c9), .int (nI b9)] : List Value).toArray below meth c s.heap [] 0 0 (MQ below (QR (.returned (some (.int (nI (fwF lt cu N (f + 1) mask l w c9 b9)))))) ([.ref (ad 7 0), .int (nI pl), .int (nI mask), .int l, .int w, .int (nI c9), .int (nI b9)] : List Value).toArray s 0 0 (fun _ => False)) (F0 m 34 ls []) := by
          intro n9_34
          induction n9_34 with
          | zero => intro j _ h9 ; exact absurd h9 (Nat.not_lt_zero _)
          | succ n9_34 ih_34 =>
            intro j hj h9 ls hl
            refine lv_iload hx hb dX2_fewestFrom_34 (lv_at hl 8 rfl) ?_
            refine lv_aload_n hx hb dX2_fewestFrom_36 rfl (lv_at hl 0 rfl) ?_
            refine x_get (K := 7) (i := 0) (v := .int (nI N)) hx hb hts hinX2 hown hK hX Nat.zero_lt_one 4 rfl rfl (by decide) rfl lk24 (congrArg (fun z => some (Value.int z)) hPL.1.2) dX2_fewestFrom_37 ?_
            refine lv_icmp_ge (tgt := 125) hx hb dX2_fewestFrom_40 (by decide) (fun c_4 => ?_) (fun c_4 => ?_)
            · replace c_4 := Int32.not_lt.mpr c_4
              obtain rfl : N = j := by
                have q9 := mt (nI_ltI (a := j) (b := N) (by omega) (by omega)).mpr c_4
                omega
              refine lv_iload hx hb dX2_fewestFrom_125 (lv_at hl 7 rfl) ?_
              exact W.iret (v := (nI (fwU lt cu N f mask l w c9 b9 N))) hx hb hr (fun t ht9 hW => ⟨congrArg (fun z => Outcome.returned (some (Value.int z))) rfl, ht9⟩) (fun _ h => nomatch h) dX2_fewestFrom_127
            · replace c_4 := Int32.not_le.mp c_4
              have hj1 : j < N := (nI_ltI (by omega) (by omega)).mp c_4
              refine lv_iload hx hb dX2_fewestFrom_43 (lv_at hl 8 rfl) ?_
              refine lv_bipush (v := 6) hx hb dX2_fewestFrom_45 (by decide) ?_
              refine lv_icmp_ge (tgt := 125) hx hb dX2_fewestFrom_47 (by decide) (fun c_5 => ?_) (fun c_5 => ?_)
              · replace c_5 := Int32.not_lt.mpr c_5
                exact absurd (show nI j < nI 6 from (nI_ltI (by omega) (by decide)).mpr (by omega)) c_5
              · replace c_5 := Int32.not_le.mp c_5
                refine lv_iload_n hx hb dX2_fewestFrom_50 rfl (lv_at hl 2 rfl) ?_
                refine lv_iconst (v := 1) hx hb dX2_fewestFrom_51 (by decide) ?_
                refine lv_iload hx hb dX2_fewestFrom_52 (lv_at hl 8 rfl) ?_
                refine lv_ishl hx hb dX2_fewestFrom_54 ?_
                refine lv_iand hx hb dX2_fewestFrom_55 ?_
                refine lv_if_ne (tgt := 119) hx hb dX2_fewestFrom_56 (by decide) (fun c_6 => ?_) (fun c_6 => ?_)
                · have hbt := bit_on hm9 (show j < 6 from by omega) c_6
                  refine lv_iinc (v := ((nI j) + 1)) (lv' := [(8, .int ((nI j) + 1)), (0, .ref (ad 7 0)), (1, .int (nI pl)), (2, .int (nI mask)), (3, .int l), (4, .int w), (5, .int (nI c9)), (6, .int (nI b9)), (7, .int (nI (fwU lt cu N f mask l w c9 b9 j)))]) hx hb dX2_fewestFrom_119 hl (k := 8) rfl rfl (by decide) rfl (fun ls hl => ?_)
                  refine lv_goto (tgt := 34) hx hb dX2_fewestFrom_122 (by decide) ?_
                  have e_7 : ((nI (fwU lt cu N f mask l w c9 b9 (j + 1))) : Int32) = (nI (fwU lt cu N f mask l w c9 b9 j)) := (by first | exact congrArg nI (fw_set lt cu N hbt) | exact congrArg nI (fw_c1 lt cu N hbt hnd) | exact congrArg nI (fw_c0 lt cu N hbt hnd))
                  have e_8 : ((nI (j + 1)) : Int32) = ((nI j) + 1) := (nI_1 j).symm
                  have hl2 : lv_has ls 10 [(0, .ref (ad 7 0)), (1, .int (nI pl)), (2, .int (nI mask)), (3, .int l), (4, .int w), (5, .int (nI c9)), (6, .int (nI b9)), (7, .int (nI (fwU lt cu N f mask l w c9 b9 (j + 1)))), (8, .int (nI (j + 1)))] := by
                    rw [e_7, e_8]
                    exact lv_sub hl [1, 2, 3, 4, 5, 6, 7, 8, 0] rfl
                  exact ih_34 (j + 1) (by omega) (by omega) ls hl2
                · have hbt := bit_off hm9 (show j < 6 from by omega) c_6
                  refine lv_aload_n hx hb dX2_fewestFrom_59 rfl (lv_at hl 0 rfl) ?_
                  refine lv_iload hx hb dX2_fewestFrom_60 (lv_at hl 8 rfl) ?_
                  refine lv_iload_n hx hb dX2_fewestFrom_62 rfl (lv_at hl 3 rfl) ?_
                  refine lv_iload hx hb dX2_fewestFrom_63 (lv_at hl 4 rfl) ?_
                  refine xn_ro (n := 3) (K := 7) (i := 0) (As := [.int (nI j), .int l, .int w]) (rest := []) (v := [.int (if ndC lt cu l w j then 1 else 0)]) ⟨hx, hb, hml, hown, hts⟩ hN hX Nat.zero_lt_one rfl rfl (qX2_mustBeCleaned la g ad σ u τ N lt cu wr hPL j hj1 l w) gX2_fewestFrom_X2_mustBeCleaned rfl rfl rfl (by decide +kernel) ⟨(by show 1 + 1 ≤ f + 1 + 2; omega), (by show 8 + (4 + 11) + 21 ≤ 29 * (f + 1) + 44; omega)⟩ rfl hl.1 rfl (Nat.le_of_ble_eq_true rfl) dX2_fewestFrom_65 ⟨Nat.zero_le _, Nat.zero_le _⟩ rfl ?_
                  refine lv_istore (lv' := [(9, .int (if ndC lt cu l w j then 1 else 0)), (0, .ref (ad 7 0)), (1, .int (nI pl)), (2, .int (nI mask)), (3, .int l), (4, .int w), (5, .int (nI c9)), (6, .int (nI b9)), (7, .int (nI (fwU lt cu N f mask l w c9 b9 j))), (8, .int (nI j))]) hx hb dX2_fewestFrom_68 hl (by decide) rfl (fun ls hl => ?_)
                  refine lv_aload_n hx hb dX2_fewestFrom_70 rfl (lv_at hl 1 rfl) ?_
                  refine lv_iload_n hx hb dX2_fewestFrom_71 rfl (lv_at hl 2 rfl) ?_
                  refine lv_iconst (v := 1) hx hb dX2_fewestFrom_72 (by decide) ?_
                  refine lv_iadd hx hb dX2_fewestFrom_73 ?_
                  refine lv_iload_n hx hb dX2_fewestFrom_74 rfl (lv_at hl 3 rfl) ?_
                  refine lv_iconst (v := 1) hx hb dX2_fewestFrom_75 (by decide) ?_
                  refine lv_iload hx hb dX2_fewestFrom_76 (lv_at hl 9 rfl) ?_
                  refine lv_ishl hx hb dX2_fewestFrom_78 ?_
                  refine lv_ior hx hb dX2_fewestFrom_79 ?_
                  refine lv_aload_n hx hb dX2_fewestFrom_80 rfl (lv_at hl 1 rfl) ?_
                  refine x_get (K := 7) (i := 0) (v := .ref (ad 9 0)) hx hb hts hinX2 hown hK hX (show 0 < 1 from Nat.zero_lt_one) 1 rfl rfl (by decide) rfl lk15 rfl dX2_fewestFrom_81 ?_
                  refine lv_iload hx hb dX2_fewestFrom_84 (lv_at hl 9 rfl) ?_
                  refine x_iald (K := 9) (i := 0) (n := 6) (f := (τ 1)) (j := (nI j)) (x := (lt j)) hx hb hK hX Nat.zero_lt_one rfl (vin_nI (Nat.lt_of_lt_of_le hj1 hPL.1.1) (by decide)) ((congrArg (τ 1) (ti_nI (by omega))).trans (hPL.2 j hj1).1) dX2_fewestFrom_86 ?_
                  refine lv_iload hx hb dX2_fewestFrom_87 (lv_at hl 0 rfl) ?_
                  refine br_if_eq (c9 := ndC lt cu l w j) (tgt := 96) hx hb dX2_fewestFrom_89 (by decide) (fun c_9 => ?_) (fun c_9 => ?_)
                  · have hnd := c_9
                    refine lv_iload hx hb dX2_fewestFrom_96 (lv_at hl 5 rfl) ?_
                    refine lv_iload hx hb dX2_fewestFrom_98 (lv_at hl 0 rfl) ?_
                    refine br_if_eq (c9 := ndC lt cu l w j) (tgt := 110) hx hb dX2_fewestFrom_100 (by decide) (fun c_10 => ?_) (fun c_10 => ?_)
                    · refine lv_iload hx hb dX2_fewestFrom_110 (lv_at hl 6 rfl) ?_
                      refine lv_iload hx hb dX2_fewestFrom_112 (lv_at hl 8 rfl) ?_
                      rw [nI_1 pl, (bit_at hm9 (show j < 6 from by omega)).2.1]
                      refine xsn_ro (n := 7) (As := [.ref (ad 7 0), .int (nI (pl + 1)), .int (nI (mask ||| (1 <<< j))), .int (lt j), .int w, .int (nI c9), .int (nI (fwU lt cu N f mask l w c9 b9 j))]) (rest := []) (v := [.int (nI (fwF lt cu N f (mask ||| (1 <<< j)) (lt j) w c9 (fwU lt cu N f mask l w c9 b9 j)))]) ⟨hx, hb, hml, hown, hts⟩ hN hX (ih (pl + 1) (mask ||| (1 <<< j)) (lt j) w c9 (fwU lt cu N f mask l w c9 b9 j) (by omega) (bit_at hm9 (show j < 6 from by omega)).2.2 (by omega) (Nat.le_trans (fwU_le lt cu N) hb9)) gX2_fewestFrom_X2_fewestFrom rfl rfl rfl (by decide +kernel) ⟨(by show f + 2 + 1 ≤ f + 1 + 2; omega), (by show 8 + (10 + 11) + (29 * f + 44) ≤ 29 * (f + 1) + 44; omega)⟩ rfl hl.1 rfl (Nat.le_of_ble_eq_true rfl) dX2_fewestFrom_114 ⟨Nat.zero_le _, Nat.zero_le _⟩ rfl ?_
                      refine lv_istore (lv' := [(7, .int (nI (fwF lt cu N f (mask ||| (1 <<< j)) (lt j) w c9 (fwU lt cu N f mask l w c9 b9 j)))), (9, .int (if ndC lt cu l w j then 1 else 0)), (0, .ref (ad 7 0)), (1, .int (nI pl)), (2, .int (nI mask)), (3, .int l), (4, .int w), (5, .int (nI c9)), (6, .int (nI b9)), (8, .int (nI j))]) hx hb dX2_fewestFrom_117 hl (by decide) rfl (fun ls hl => ?_)
                      refine lv_iinc (v := ((nI j) + 1)) (lv' := [(8, .int ((nI j) + 1)), (7, .int (nI (fwF lt cu N f (mask ||| (1 <<< j)) (lt j) w c9 (fwU lt cu N f mask l w c9 b9 j)))), (9, .int (if ndC lt cu l w j then 1 else 0)), (0, .ref (ad 7 0)), (1, .int (nI pl)), (2, .int (nI mask)), (3, .int l), (4, .int w), (5, .int (nI c9)), (6, .int (nI b9))]) hx hb dX2_fewestFrom_119 hl (k := 9) rfl rfl (by decide) rfl (fun ls hl => ?_)
                      refine lv_goto (tgt := 34) hx hb dX2_fewestFrom_122 (by decide) ?_
                      have e_11 : ((nI (fwU lt cu N f mask l w c9 b9 (j + 1))) : Int32) = (nI (fwF lt cu N f (mask ||| (1 <<< j)) (lt j) w c9 (fwU lt cu N f mask l w c9 b9 j))) := (by first | exact congrArg nI (fw_set lt cu N hbt) | exact congrArg nI (fw_c1 lt cu N hbt hnd) | exact congrArg nI (fw_c0 lt cu N hbt hnd))
                      have e_12 : ((nI (j + 1)) : Int32) = ((nI j) + 1) := (nI_1 j).symm
                      have hl2 : lv_has ls 10 [(0, .ref (ad 7 0)), (1, .int (nI pl)), (2, .int (nI mask)), (3, .int l), (4, .int w), (5, .int (nI c9)), (6, .int (nI b9)), (7, .int (nI (fwU lt cu N f mask l w c9 b9 (j + 1)))), (8, .int (nI (j + 1)))] := by
                        rw [e_11, e_12]
                        exact lv_sub hl [3, 4, 5, 6, 7, 8, 9, 1, 0] rfl
                      exact ih_34 (j + 1) (by omega) (by omega) ls hl2
                    · exact absurd c_10 hnd
                  · have hnd := c_9
                    refine lv_iconst (v := (-1)) hx hb dX2_fewestFrom_92 (by decide) ?_
                    refine lv_goto (tgt := 98) hx hb dX2_fewestFrom_93 (by decide) ?_
                    refine lv_iload hx hb dX2_fewestFrom_98 (lv_at hl 0 rfl) ?_
                    refine br_if_eq (c9 := ndC lt cu l w j) (tgt := 110) hx hb dX2_fewestFrom_100 (by decide) (fun c_13 => ?_) (fun c_13 => ?_)
                    · exact absurd hnd c_13
                    · refine lv_iload hx hb dX2_fewestFrom_103 (lv_at hl 6 rfl) ?_
                      refine lv_iconst (v := 1) hx hb dX2_fewestFrom_105 (by decide) ?_
                      refine lv_iadd hx hb dX2_fewestFrom_106 ?_
                      refine lv_goto (tgt := 112) hx hb dX2_fewestFrom_107 (by decide) ?_
                      refine lv_iload hx hb dX2_fewestFrom_112 (lv_at hl 8 rfl) ?_
                      rw [nI_1 pl, (bit_at hm9 (show j < 6 from by omega)).2.1, nI_1 c9]
                      refine xsn_ro (n := 7) (As := [.ref (ad 7 0), .int (nI (pl + 1)), .int (nI (mask ||| (1 <<< j))), .int (lt j), .int (-1), .int (nI (c9 + 1)), .int (nI (fwU lt cu N f mask l w c9 b9 j))]) (rest := []) (v := [.int (nI (fwF lt cu N f (mask ||| (1 <<< j)) (lt j) (-1) (c9 + 1) (fwU lt cu N f mask l w c9 b9 j)))]) ⟨hx, hb, hml, hown, hts⟩ hN hX (ih (pl + 1) (mask ||| (1 <<< j)) (lt j) (-1) (c9 + 1) (fwU lt cu N f mask l w c9 b9 j) (by omega) (bit_at hm9 (show j < 6 from by omega)).2.2 (by omega) (Nat.le_trans (fwU_le lt cu N) hb9)) gX2_fewestFrom_X2_fewestFrom rfl rfl rfl (by decide +kernel) ⟨(by show f + 2 + 1 ≤ f + 1 + 2; omega), (by show 8 + (10 + 11) + (29 * f + 44) ≤ 29 * (f + 1) + 44; omega)⟩ rfl hl.1 rfl (Nat.le_of_ble_eq_true rfl) dX2_fewestFrom_114 ⟨Nat.zero_le _, Nat.zero_le _⟩ rfl ?_
                      refine lv_istore (lv' := [(7, .int (nI (fwF lt cu N f (mask ||| (1 <<< j)) (lt j) (-1) (c9 + 1) (fwU lt cu N f mask l w c9 b9 j)))), (9, .int (if ndC lt cu l w j then 1 else 0)), (0, .ref (ad 7 0)), (1, .int (nI pl)), (2, .int (nI mask)), (3, .int l), (4, .int w), (5, .int (nI c9)), (6, .int (nI b9)), (8, .int (nI j))]) hx hb dX2_fewestFrom_117 hl (by decide) rfl (fun ls hl => ?_)
                      refine lv_iinc (v := ((nI j) + 1)) (lv' := [(8, .int ((nI j) + 1)), (7, .int (nI (fwF lt cu N f (mask ||| (1 <<< j)) (lt j) (-1) (c9 + 1) (fwU lt cu N f mask l w c9 b9 j)))), (9, .int (if ndC lt cu l w j then 1 else 0)), (0, .ref (ad 7 0)), (1, .int (nI pl)), (2, .int (nI mask)), (3, .int l), (4, .int w), (5, .int (nI c9)), (6, .int (nI b9))]) hx hb dX2_fewestFrom_119 hl (k := 9) rfl rfl (by decide) rfl (fun ls hl => ?_)
                      refine lv_goto (tgt := 34) hx hb dX2_fewestFrom_122 (by decide) ?_
                      have e_14 : ((nI (fwU lt cu N f mask l w c9 b9 (j + 1))) : Int32) = (nI (fwF lt cu N f (mask ||| (1 <<< j)) (lt j) (-1) (c9 + 1) (fwU lt cu N f mask l w c9 b9 j))) := (by first | exact congrArg nI (fw_set lt cu N hbt) | exact congrArg nI (fw_c1 lt cu N hbt hnd) | exact congrArg nI (fw_c0 lt cu N hbt hnd))
                      have e_15 : ((nI (j + 1)) : Int32) = ((nI j) + 1) := (nI_1 j).symm
                      have hl2 : lv_has ls 10 [(0, .ref (ad 7 0)), (1, .int (nI pl)), (2, .int (nI mask)), (3, .int l), (4, .int w), (5, .int (nI c9)), (6, .int (nI b9)), (7, .int (nI (fwU lt cu N f mask l w c9 b9 (j + 1)))), (8, .int (nI (j + 1)))] := by
                        rw [e_14, e_15]
                        exact lv_sub hl [3, 4, 5, 6, 7, 8, 9, 1, 0] rfl
                      exact ih_34 (j + 1) (by omega) (by omega) ls hl2
        have e_16 : ((nI (fwU lt cu N f mask l w c9 b9 (0))) : Int32) = (nI b9) := rfl
        have e_17 : ((nI (0)) : Int32) = 0 := (by first | rfl | (simp [-Int32.not_lt, -Int32.not_le, okL, okV, okO, okR, okD, isP, shP, c_1, c_2, c_3]; done) | (simp_all [-Int32.not_lt, -Int32.not_le, okL, okV, okO, okR, okD, isP, shP]; done))
        have hl2 : lv_has ls 10 [(0, .ref (ad 7 0)), (1, .int (nI pl)), (2, .int (nI mask)), (3, .int l), (4, .int w), (5, .int (nI c9)), (6, .int (nI b9)), (7, .int (nI (fwU lt cu N f mask l w c9 b9 (0)))), (8, .int (nI (0)))] := by
          rw [e_16, e_17]
          exact lv_sub hl [2, 3, 4, 5, 6, 7, 8, 1, 0] rfl
        exact lp34 (N - 0 + 1) (0) (Nat.zero_le _) (Nat.lt_succ_self _) ls hl2
      · exact absurd (show nI pl < nI 6 from (nI_ltI (by omega) (by decide)).mpr (by omega)) c_3
  · have hcb : b9 ≤ c9 := Nat.not_lt.mp (fun q9 => c_1 ((nI_ltI (by omega) (by omega)).mpr q9))
    refine lv_iload hx hb dX2_fewestFrom_7 (lv_at hl 6 rfl) ?_
    exact W.iret (v := (nI b9)) hx hb hr (fun t ht9 hW => ⟨congrArg (fun z => Outcome.returned (some (Value.int z))) (congrArg nI (fw_stop lt cu N hcb).symm), ht9⟩) (fun _ h => nomatch h) dX2_fewestFrom_9
theorem qX2_fewestFrom (la : Launch) (g : EG) (ad : Nat → Nat → Nat) (σ : Sg) (u : Nat → Int64) (τ : Sg) (N : Nat) (lt cu : Nat → Int32) (wr : Nat → Nat) (hPL : PL τ N lt cu wr) : ∀ (f : Nat), ∀ (pl mask : Nat) (l w : Int32) (c9 b9 : Nat), pl + f = N → mask < 64 → c9 ≤ pl → b9 ≤ 100 → Met la yX2_fewestFrom wsX2_fewestFrom ({ frames := f + 2, cells := 0, slots := 0, locals := 29 * f + 44 } : Room) (va_Pc [.ref (ad 7 0), .int (nI pl), .int (nI mask), .int l, .int w, .int (nI c9), .int (nI b9)] (fun U => XR g ad σ u τ U.heap ∧ KN g U)) (QR (.returned (some (.int (nI (fwF lt cu N f mask l w c9 b9)))))) 0 0 (fun _ => False)
  | 0 => fun pl mask l w c9 b9 h1 h2 h3 h4 => qX2_fewestFrom_0 la g ad σ u τ N lt cu wr hPL pl mask l w c9 b9 h1 h2 h3 h4
  | f + 1 => fun pl mask l w c9 b9 h1 h2 h3 h4 => qX2_fewestFrom_s la g ad σ u τ N lt cu wr hPL f pl mask l w c9 b9 h1 h2 h3 h4 (qX2_fewestFrom la g ad σ u τ N lt cu wr hPL f)
set_option maxHeartbeats 4000000 in
set_option maxRecDepth 100000 in
theorem qX2_leastFrom_0 (la : Launch) (g : EG) (ad : Nat → Nat → Nat) (σ : Sg) (u : Nat → Int64) (τ : Sg) (N : Nat) (lt cu : Nat → Int32) (wr : Nat → Nat) (hPL : PL τ N lt cu wr) (pl mask : Nat) (l w : Int32) (hs9 : Nat) (hf : pl + 0 = N) (hm9 : mask < 64) (hh9 : hs9 ≤ 103 * pl) : Met la yX2_leastFrom wsX2_leastFrom ({ frames := 2, cells := 0, slots := 0, locals := 44 } : Room) (va_Pc [.ref (ad 7 0), .int (nI pl), .int (nI mask), .int l, .int w, .int (nI hs9)] (fun U => XR g ad σ u τ U.heap ∧ KN g U)) (QR (.returned (some (.int (nI (laF lt cu wr N 0 mask l w hs9)))))) 0 0 (fun _ => False) := by
  refine Met.ofW (cc := cX2_leastFrom) (maxL := 10) (ret := (some .int)) (by decide) rfl ?_
  intro p e s m args below meth c s₁ B hml hv
  obtain ⟨rfl, hX, hN⟩ := hv
  have hK := hN.1
  have hN6 := hPL.1.1
  have hx := B.exec
  have hb := B.bytes
  have hr := B.returns
  have hts := atoms_spec (ws := wsX2_leastFrom) B.pre
  have hown : s.vm.findClass RX2 = some m.cls := findClass_of_methodNamed B.named
  have hlocks := B.notSynchronized
  have hinX2 : ∀ w ∈ wsX20, w ∈ wsX2_leastFrom := by decide +kernel
  have lk24 := hts (.fieldLink RX2 24 "DyehouseLedger$Plan" "size" "I") (by decide +kernel)
  have hl := lv_entry ([.ref (ad 7 0), .int (nI pl), .int (nI mask), .int l, .int w, .int (nI hs9)]) (n := 10) (Nat.le_of_ble_eq_true rfl)
  rw [lg_entry_eq]
  generalize (lg_sl ([.ref (ad 7 0), .int (nI pl), .int (nI mask), .int l, .int w, .int (nI hs9)]) ++ List.replicate (10 - (lg_sl ([.ref (ad 7 0), .int (nI pl), .int (nI mask), .int l, .int w, .int (nI hs9)])).length) Slot.unset).toArray = ls at hl ⊢
  have hl : lv_has ls 10 [(0, .ref (ad 7 0)), (1, .int (nI pl)), (2, .int (nI mask)), (3, .int l), (4, .int w), (5, .int (nI hs9))] := hl
  refine lv_iload_n hx hb dX2_leastFrom_0 rfl (lv_at hl 1 rfl) ?_
  refine lv_aload_n hx hb dX2_leastFrom_1 rfl (lv_at hl 0 rfl) ?_
  refine x_get (K := 7) (i := 0) (v := .int (nI N)) hx hb hts hinX2 hown hK hX Nat.zero_lt_one 4 rfl rfl (by decide) rfl lk24 (congrArg (fun z => some (Value.int z)) hPL.1.2) dX2_leastFrom_2 ?_
  refine lv_icmp_ge (tgt := 14) hx hb dX2_leastFrom_5 (by decide) (fun c_1 => ?_) (fun c_1 => ?_)
  · replace c_1 := Int32.not_lt.mpr c_1
    refine lv_iload hx hb dX2_leastFrom_14 (lv_at hl 5 rfl) ?_
    exact W.iret (v := (nI hs9)) hx hb hr (fun t ht9 hW => ⟨congrArg (fun z => Outcome.returned (some (Value.int z))) (congrArg nI (la_zero lt cu wr N (by omega)).symm), ht9⟩) (fun _ h => nomatch h) dX2_leastFrom_16
  · replace c_1 := Int32.not_le.mp c_1
    exact absurd ((nI_ltI (by omega) (by omega)).mp c_1) (show ¬ pl < N from by omega)
set_option maxHeartbeats 4000000 in
set_option maxRecDepth 100000 in
theorem qX2_leastFrom_s (la : Launch) (g : EG) (ad : Nat → Nat → Nat) (σ : Sg) (u : Nat → Int64) (τ : Sg) (N : Nat) (lt cu : Nat → Int32) (wr : Nat → Nat) (hPL : PL τ N lt cu wr) (f pl mask : Nat) (l w : Int32) (hs9 : Nat) (hf : pl + (f + 1) = N) (hm9 : mask < 64) (hh9 : hs9 ≤ 103 * pl) (ih : ∀ (pl mask : Nat) (l w : Int32) (hs9 : Nat), pl + f = N → mask < 64 → hs9 ≤ 103 * pl → Met la yX2_leastFrom wsX2_leastFrom ({ frames := f + 2, cells := 0, slots := 0, locals := 29 * f + 44 } : Room) (va_Pc [.ref (ad 7 0), .int (nI pl), .int (nI mask), .int l, .int w, .int (nI hs9)] (fun U => XR g ad σ u τ U.heap ∧ KN g U)) (QR (.returned (some (.int (nI (laF lt cu wr N f mask l w hs9)))))) 0 0 (fun _ => False)) : Met la yX2_leastFrom wsX2_leastFrom ({ frames := f + 1 + 2, cells := 0, slots := 0, locals := 29 * (f + 1) + 44 } : Room) (va_Pc [.ref (ad 7 0), .int (nI pl), .int (nI mask), .int l, .int w, .int (nI hs9)] (fun U => XR g ad σ u τ U.heap ∧ KN g U)) (QR (.returned (some (.int (nI (laF lt cu wr N (f + 1) mask l w hs9)))))) 0 0 (fun _ => False) := by
  refine Met.ofW (cc := cX2_leastFrom) (maxL := 10) (ret := (some .int)) (by decide) rfl ?_
  intro p e s m args below meth c s₁ B hml hv
  obtain ⟨rfl, hX, hN⟩ := hv
  have hK := hN.1
  have hN6 := hPL.1.1
  have hx := B.exec
  have hb := B.bytes
  have hr := B.returns
  have hts := atoms_spec (ws := wsX2_leastFrom) B.pre
  have hown : s.vm.findClass RX2 = some m.cls := findClass_of_methodNamed B.named
  have hlocks := B.notSynchronized
  have hinX2 : ∀ w ∈ wsX20, w ∈ wsX2_leastFrom := by decide +kernel
  have ck99 := hts (.constant RX2 99 (1000000)) (by decide +kernel)
  have lk15 := hts (.fieldLink RX2 15 "DyehouseLedger$Plan" "lights" "[I") (by decide +kernel)
  have lk21 := hts (.fieldLink RX2 21 "DyehouseLedger$Plan" "hours" "[I") (by decide +kernel)
  have lk24 := hts (.fieldLink RX2 24 "DyehouseLedger$Plan" "size" "I") (by decide +kernel)
  have mcmin := hts (.code Lib.Math.min.name Lib.Math.min.code 2 (some .int)) (by decide +kernel)
  have mimin := hts (.initialized "java/lang/Math") (by decide +kernel)
  have ml100 := hts (.methodLink RX2 100 Lib.Math.min.name) (by decide +kernel)
  have msmin := hts (.static Lib.Math.min.name) (by decide +kernel)
  have hl := lv_entry ([.ref (ad 7 0), .int (nI pl), .int (nI mask), .int l, .int w, .int (nI hs9)]) (n := 10) (Nat.le_of_ble_eq_true rfl)
  rw [lg_entry_eq]
  generalize (lg_sl ([.ref (ad 7 0), .int (nI pl), .int (nI mask), .int l, .int w, .int (nI hs9)]) ++ List.replicate (10 - (lg_sl ([.ref (ad 7 0), .int (nI pl), .int (nI mask), .int l, .int w, .int (nI hs9)])).length) Slot.unset).toArray = ls at hl ⊢
  have hl : lv_has ls 10 [(0, .ref (ad 7 0)), (1, .int (nI pl)), (2, .int (nI mask)), (3, .int l), (4, .int w), (5, .int (nI hs9))] := hl
  refine lv_iload_n hx hb dX2_leastFrom_0 rfl (lv_at hl 1 rfl) ?_
  refine lv_aload_n hx hb dX2_leastFrom_1 rfl (lv_at hl 0 rfl) ?_
  refine x_get (K := 7) (i := 0) (v := .int (nI N)) hx hb hts hinX2 hown hK hX Nat.zero_lt_one 4 rfl rfl (by decide) rfl lk24 (congrArg (fun z => some (Value.int z)) hPL.1.2) dX2_leastFrom_2 ?_
  refine lv_icmp_ge (tgt := 14) hx hb dX2_leastFrom_5 (by decide) (fun c_1 => ?_) (fun c_1 => ?_)
  · replace c_1 := Int32.not_lt.mpr c_1
    exact absurd ((nI_ltI (by omega) (by omega)).mpr (show pl < N from by omega)) c_1
  · replace c_1 := Int32.not_le.mp c_1
    refine lv_iload_n hx hb dX2_leastFrom_8 rfl (lv_at hl 1 rfl) ?_
    refine lv_bipush (v := 6) hx hb dX2_leastFrom_9 (by decide) ?_
    refine lv_icmp_lt (tgt := 17) hx hb dX2_leastFrom_11 (by decide) (fun c_2 => ?_) (fun c_2 => ?_)
    · refine lv_ldc (v := 1000000) hx hb hown ck99 dX2_leastFrom_17 ?_
      refine lv_istore (lv' := [(6, .int 1000000), (0, .ref (ad 7 0)), (1, .int (nI pl)), (2, .int (nI mask)), (3, .int l), (4, .int w), (5, .int (nI hs9))]) hx hb dX2_leastFrom_19 hl (by decide) rfl (fun ls hl => ?_)
      refine lv_iconst (v := 0) hx hb dX2_leastFrom_21 (by decide) ?_
      refine lv_istore (lv' := [(7, .int 0), (6, .int 1000000), (0, .ref (ad 7 0)), (1, .int (nI pl)), (2, .int (nI mask)), (3, .int l), (4, .int w), (5, .int (nI hs9))]) hx hb dX2_leastFrom_22 hl (by decide) rfl (fun ls hl => ?_)
      have lp24 : ∀ (n9 : Nat) (j : Nat), (j ≤ N) → N - j < n9 → ∀ (ls : Array Slot), lv_has ls 10 [(0, .ref (ad 7 0)), (1, .int (nI pl)), (2, .int (nI mask)), (3, .int l), (4, .int w), (5, .int (nI hs9)), (6, .int (nI (laU lt cu wr N f mask l w hs9 j))), (7, .int (nI j))] → W p la e ({ frames := f + 1 + 2, cells := 0, slots := 0, locals := 29 * (f + 1) + 44 } : Room) s m ([.ref (ad 7 0), .int (nI pl), .int (nI mask), .int l, .int w, .int (nI hs9)] : List Value).toArray below meth c s.heap [] 0 0 (MQ below (QR (.returned (some (.int (nI (laF lt cu wr N (f + 1) mask l w hs9)))))) ([.ref (ad 7 0), .int (nI pl), .int (nI mask), .int l, .int w, .int (nI hs9)] : List Value).toArray s 0 0 (fun _ => False)) (F0 m 24 ls []) := by
        intro n9_24
        induction n9_24 with
        | zero => intro j _ h9 ; exact absurd h9 (Nat.not_lt_zero _)
        | succ n9_24 ih_24 =>
          intro j hj h9 ls hl
          refine lv_iload hx hb dX2_leastFrom_24 (lv_at hl 7 rfl) ?_
          refine lv_aload_n hx hb dX2_leastFrom_26 rfl (lv_at hl 0 rfl) ?_
          refine x_get (K := 7) (i := 0) (v := .int (nI N)) hx hb hts hinX2 hown hK hX Nat.zero_lt_one 4 rfl rfl (by decide) rfl lk24 (congrArg (fun z => some (Value.int z)) hPL.1.2) dX2_leastFrom_27 ?_
          refine lv_icmp_ge (tgt := 129) hx hb dX2_leastFrom_30 (by decide) (fun c_3 => ?_) (fun c_3 => ?_)
          · replace c_3 := Int32.not_lt.mpr c_3
            obtain rfl : N = j := by
              have q9 := mt (nI_ltI (a := j) (b := N) (by omega) (by omega)).mpr c_3
              omega
            refine lv_iload hx hb dX2_leastFrom_129 (lv_at hl 6 rfl) ?_
            exact W.iret (v := (nI (laU lt cu wr N f mask l w hs9 N))) hx hb hr (fun t ht9 hW => ⟨congrArg (fun z => Outcome.returned (some (Value.int z))) rfl, ht9⟩) (fun _ h => nomatch h) dX2_leastFrom_131
          · replace c_3 := Int32.not_le.mp c_3
            have hj1 : j < N := (nI_ltI (by omega) (by omega)).mp c_3
            refine lv_iload hx hb dX2_leastFrom_33 (lv_at hl 7 rfl) ?_
            refine lv_bipush (v := 6) hx hb dX2_leastFrom_35 (by decide) ?_
            refine lv_icmp_ge (tgt := 129) hx hb dX2_leastFrom_37 (by decide) (fun c_4 => ?_) (fun c_4 => ?_)
            · replace c_4 := Int32.not_lt.mpr c_4
              exact absurd (show nI j < nI 6 from (nI_ltI (by omega) (by decide)).mpr (by omega)) c_4
            · replace c_4 := Int32.not_le.mp c_4
              refine lv_iload_n hx hb dX2_leastFrom_40 rfl (lv_at hl 2 rfl) ?_
              refine lv_iconst (v := 1) hx hb dX2_leastFrom_41 (by decide) ?_
              refine lv_iload hx hb dX2_leastFrom_42 (lv_at hl 7 rfl) ?_
              refine lv_ishl hx hb dX2_leastFrom_44 ?_
              refine lv_iand hx hb dX2_leastFrom_45 ?_
              refine lv_if_ne (tgt := 123) hx hb dX2_leastFrom_46 (by decide) (fun c_5 => ?_) (fun c_5 => ?_)
              · have hbt := bit_on hm9 (show j < 6 from by omega) c_5
                refine lv_iinc (v := ((nI j) + 1)) (lv' := [(7, .int ((nI j) + 1)), (0, .ref (ad 7 0)), (1, .int (nI pl)), (2, .int (nI mask)), (3, .int l), (4, .int w), (5, .int (nI hs9)), (6, .int (nI (laU lt cu wr N f mask l w hs9 j)))]) hx hb dX2_leastFrom_123 hl (k := 7) rfl rfl (by decide) rfl (fun ls hl => ?_)
                refine lv_goto (tgt := 24) hx hb dX2_leastFrom_126 (by decide) ?_
                have e_6 : ((nI (laU lt cu wr N f mask l w hs9 (j + 1))) : Int32) = (nI (laU lt cu wr N f mask l w hs9 j)) := (by first | exact congrArg nI (la_set lt cu wr N hbt) | exact (congrArg nI (la_c1 lt cu wr N hbt hnd)).trans (minI (Nat.lt_of_le_of_lt (laU_le lt cu wr N) (by decide)) (Nat.lt_of_le_of_lt (la_le lt cu wr N) (by decide))) | exact (congrArg nI (la_c0 lt cu wr N hbt hnd)).trans (minI (Nat.lt_of_le_of_lt (laU_le lt cu wr N) (by decide)) (Nat.lt_of_le_of_lt (la_le lt cu wr N) (by decide))))
                have e_7 : ((nI (j + 1)) : Int32) = ((nI j) + 1) := (nI_1 j).symm
                have hl2 : lv_has ls 10 [(0, .ref (ad 7 0)), (1, .int (nI pl)), (2, .int (nI mask)), (3, .int l), (4, .int w), (5, .int (nI hs9)), (6, .int (nI (laU lt cu wr N f mask l w hs9 (j + 1)))), (7, .int (nI (j + 1)))] := by
                  rw [e_6, e_7]
                  exact lv_sub hl [1, 2, 3, 4, 5, 6, 7, 0] rfl
                exact ih_24 (j + 1) (by omega) (by omega) ls hl2
              · have hbt := bit_off hm9 (show j < 6 from by omega) c_5
                refine lv_aload_n hx hb dX2_leastFrom_49 rfl (lv_at hl 0 rfl) ?_
                refine lv_iload hx hb dX2_leastFrom_50 (lv_at hl 7 rfl) ?_
                refine lv_iload_n hx hb dX2_leastFrom_52 rfl (lv_at hl 3 rfl) ?_
                refine lv_iload hx hb dX2_leastFrom_53 (lv_at hl 4 rfl) ?_
                refine xn_ro (n := 3) (K := 7) (i := 0) (As := [.int (nI j), .int l, .int w]) (rest := []) (v := [.int (if ndC lt cu l w j then 1 else 0)]) ⟨hx, hb, hml, hown, hts⟩ hN hX Nat.zero_lt_one rfl rfl (qX2_mustBeCleaned la g ad σ u τ N lt cu wr hPL j hj1 l w) gX2_leastFrom_X2_mustBeCleaned rfl rfl rfl (by decide +kernel) ⟨(by show 1 + 1 ≤ f + 1 + 2; omega), (by show 8 + (4 + 11) + 21 ≤ 29 * (f + 1) + 44; omega)⟩ rfl hl.1 rfl (Nat.le_of_ble_eq_true rfl) dX2_leastFrom_55 ⟨Nat.zero_le _, Nat.zero_le _⟩ rfl ?_
                refine lv_istore (lv' := [(8, .int (if ndC lt cu l w j then 1 else 0)), (0, .ref (ad 7 0)), (1, .int (nI pl)), (2, .int (nI mask)), (3, .int l), (4, .int w), (5, .int (nI hs9)), (6, .int (nI (laU lt cu wr N f mask l w hs9 j))), (7, .int (nI j))]) hx hb dX2_leastFrom_58 hl (by decide) rfl (fun ls hl => ?_)
                refine lv_iload hx hb dX2_leastFrom_60 (lv_at hl 6 rfl) ?_
                refine lv_aload_n hx hb dX2_leastFrom_62 rfl (lv_at hl 1 rfl) ?_
                refine x_get (K := 7) (i := 0) (v := .ref (ad 11 0)) hx hb hts hinX2 hown hK hX (show 0 < 1 from Nat.zero_lt_one) 3 rfl rfl (by decide) rfl lk21 rfl dX2_leastFrom_63 ?_
                refine lv_iload hx hb dX2_leastFrom_66 (lv_at hl 8 rfl) ?_
                refine x_iald (K := 11) (i := 0) (n := 6) (f := (τ 3)) (j := (nI j)) (x := (nI (wr j))) hx hb hK hX Nat.zero_lt_one rfl (vin_nI (Nat.lt_of_lt_of_le hj1 hPL.1.1) (by decide)) ((congrArg (τ 3) (ti_nI (by omega))).trans (hPL.2 j hj1).2.2.1) dX2_leastFrom_68 ?_
                refine lv_iadd hx hb dX2_leastFrom_69 ?_
                refine lv_iload hx hb dX2_leastFrom_70 (lv_at hl 0 rfl) ?_
                refine br_if_eq (c9 := ndC lt cu l w j) (tgt := 79) hx hb dX2_leastFrom_72 (by decide) (fun c_8 => ?_) (fun c_8 => ?_)
                · have hnd := c_8
                  refine lv_iconst (v := 0) hx hb dX2_leastFrom_79 (by decide) ?_
                  refine lv_iadd hx hb dX2_leastFrom_80 ?_
                  refine lv_istore (lv' := [(9, .int (((nI hs9) + (nI (wr j))) + 0)), (8, .int (if ndC lt cu l w j then 1 else 0)), (0, .ref (ad 7 0)), (1, .int (nI pl)), (2, .int (nI mask)), (3, .int l), (4, .int w), (5, .int (nI hs9)), (6, .int (nI (laU lt cu wr N f mask l w hs9 j))), (7, .int (nI j))]) hx hb dX2_leastFrom_81 hl (by decide) rfl (fun ls hl => ?_)
                  refine lv_iload hx hb dX2_leastFrom_83 (lv_at hl 8 rfl) ?_
                  refine lv_aload_n hx hb dX2_leastFrom_85 rfl (lv_at hl 2 rfl) ?_
                  refine lv_iload_n hx hb dX2_leastFrom_86 rfl (lv_at hl 3 rfl) ?_
                  refine lv_iconst (v := 1) hx hb dX2_leastFrom_87 (by decide) ?_
                  refine lv_iadd hx hb dX2_leastFrom_88 ?_
                  refine lv_iload_n hx hb dX2_leastFrom_89 rfl (lv_at hl 4 rfl) ?_
                  refine lv_iconst (v := 1) hx hb dX2_leastFrom_90 (by decide) ?_
                  refine lv_iload hx hb dX2_leastFrom_91 (lv_at hl 9 rfl) ?_
                  refine lv_ishl hx hb dX2_leastFrom_93 ?_
                  refine lv_ior hx hb dX2_leastFrom_94 ?_
                  refine lv_aload_n hx hb dX2_leastFrom_95 rfl (lv_at hl 2 rfl) ?_
                  refine x_get (K := 7) (i := 0) (v := .ref (ad 9 0)) hx hb hts hinX2 hown hK hX (show 0 < 1 from Nat.zero_lt_one) 1 rfl rfl (by decide) rfl lk15 rfl dX2_leastFrom_96 ?_
                  refine lv_iload hx hb dX2_leastFrom_99 (lv_at hl 9 rfl) ?_
                  refine x_iald (K := 9) (i := 0) (n := 6) (f := (τ 1)) (j := (nI j)) (x := (lt j)) hx hb hK hX Nat.zero_lt_one rfl (vin_nI (Nat.lt_of_lt_of_le hj1 hPL.1.1) (by decide)) ((congrArg (τ 1) (ti_nI (by omega))).trans (hPL.2 j hj1).1) dX2_leastFrom_101 ?_
                  refine lv_iload hx hb dX2_leastFrom_102 (lv_at hl 1 rfl) ?_
                  refine br_if_eq (c9 := ndC lt cu l w j) (tgt := 111) hx hb dX2_leastFrom_104 (by decide) (fun c_9 => ?_) (fun c_9 => ?_)
                  · refine lv_iload hx hb dX2_leastFrom_111 (lv_at hl 6 rfl) ?_
                    refine lv_iload hx hb dX2_leastFrom_113 (lv_at hl 0 rfl) ?_
                    rw [nI_1 pl, (bit_at hm9 (show j < 6 from by omega)).2.1, show ((nI hs9 + nI (wr j)) + 0 : Int32) = nI (hs9 + wr j + 0) from by rw [nI_add, show (0 : Int32) = nI 0 from rfl, nI_add]]
                    have hw9 := (hPL.2 j hj1).2.2.2
                    refine xsn_ro (n := 6) (As := [.ref (ad 7 0), .int (nI (pl + 1)), .int (nI (mask ||| (1 <<< j))), .int (lt j), .int w, .int (nI (hs9 + wr j + 0))]) (rest := [.int (nI (laU lt cu wr N f mask l w hs9 j))]) (v := [.int (nI (laF lt cu wr N f (mask ||| (1 <<< j)) (lt j) w (hs9 + wr j + 0)))]) ⟨hx, hb, hml, hown, hts⟩ hN hX (ih (pl + 1) (mask ||| (1 <<< j)) (lt j) w (hs9 + wr j + 0) (by omega) (bit_at hm9 (show j < 6 from by omega)).2.2 (by omega)) gX2_leastFrom_X2_leastFrom rfl rfl rfl (by decide +kernel) ⟨(by show f + 2 + 1 ≤ f + 1 + 2; omega), (by show 8 + (10 + 11) + (29 * f + 44) ≤ 29 * (f + 1) + 44; omega)⟩ rfl hl.1 rfl (Nat.le_of_ble_eq_true rfl) dX2_leastFrom_115 ⟨Nat.zero_le _, Nat.zero_le _⟩ rfl ?_
                    refine va_mmin hx hb (hml.trans hl.1.symm) hown ml100 msmin mimin mcmin (by show 1 ≤ f + 1 + 2; omega) (by show 0 + 13 ≤ 29 * (f + 1) + 44; omega) (Nat.zero_le _) (Nat.zero_le _) dX2_leastFrom_118 ?_
                    refine lv_istore (lv' := [(6, .int (if (nI (laF lt cu wr N f (mask ||| (1 <<< j)) (lt j) w (hs9 + wr j + 0))) < (nI (laU lt cu wr N f mask l w hs9 j)) then (nI (laF lt cu wr N f (mask ||| (1 <<< j)) (lt j) w (hs9 + wr j + 0))) else (nI (laU lt cu wr N f mask l w hs9 j)))), (9, .int (((nI hs9) + (nI (wr j))) + 0)), (8, .int (if ndC lt cu l w j then 1 else 0)), (0, .ref (ad 7 0)), (1, .int (nI pl)), (2, .int (nI mask)), (3, .int l), (4, .int w), (5, .int (nI hs9)), (7, .int (nI j))]) hx hb dX2_leastFrom_121 hl (by decide) rfl (fun ls hl => ?_)
                    refine lv_iinc (v := ((nI j) + 1)) (lv' := [(7, .int ((nI j) + 1)), (6, .int (if (nI (laF lt cu wr N f (mask ||| (1 <<< j)) (lt j) w (hs9 + wr j + 0))) < (nI (laU lt cu wr N f mask l w hs9 j)) then (nI (laF lt cu wr N f (mask ||| (1 <<< j)) (lt j) w (hs9 + wr j + 0))) else (nI (laU lt cu wr N f mask l w hs9 j)))), (9, .int (((nI hs9) + (nI (wr j))) + 0)), (8, .int (if ndC lt cu l w j then 1 else 0)), (0, .ref (ad 7 0)), (1, .int (nI pl)), (2, .int (nI mask)), (3, .int l), (4, .int w), (5, .int (nI hs9))]) hx hb dX2_leastFrom_123 hl (k := 9) rfl rfl (by decide) rfl (fun ls hl => ?_)
                    refine lv_goto (tgt := 24) hx hb dX2_leastFrom_126 (by decide) ?_
                    have e_10 : ((nI (laU lt cu wr N f mask l w hs9 (j + 1))) : Int32) = (if (nI (laF lt cu wr N f (mask ||| (1 <<< j)) (lt j) w (hs9 + wr j + 0))) < (nI (laU lt cu wr N f mask l w hs9 j)) then (nI (laF lt cu wr N f (mask ||| (1 <<< j)) (lt j) w (hs9 + wr j + 0))) else (nI (laU lt cu wr N f mask l w hs9 j))) := (by first | exact congrArg nI (la_set lt cu wr N hbt) | exact (congrArg nI (la_c1 lt cu wr N hbt hnd)).trans (minI (Nat.lt_of_le_of_lt (laU_le lt cu wr N) (by decide)) (Nat.lt_of_le_of_lt (la_le lt cu wr N) (by decide))) | exact (congrArg nI (la_c0 lt cu wr N hbt hnd)).trans (minI (Nat.lt_of_le_of_lt (laU_le lt cu wr N) (by decide)) (Nat.lt_of_le_of_lt (la_le lt cu wr N) (by decide))))
                    have e_11 : ((nI (j + 1)) : Int32) = ((nI j) + 1) := (nI_1 j).symm
                    have hl2 : lv_has ls 10 [(0, .ref (ad 7 0)), (1, .int (nI pl)), (2, .int (nI mask)), (3, .int l), (4, .int w), (5, .int (nI hs9)), (6, .int (nI (laU lt cu wr N f mask l w hs9 (j + 1)))), (7, .int (nI (j + 1)))] := by
                      rw [e_10, e_11]
                      exact lv_sub hl [4, 5, 6, 7, 8, 9, 1, 0] rfl
                    exact ih_24 (j + 1) (by omega) (by omega) ls hl2
                  · exact absurd c_9 hnd
                · have hnd := c_8
                  refine lv_iconst (v := 3) hx hb dX2_leastFrom_75 (by decide) ?_
                  refine lv_goto (tgt := 80) hx hb dX2_leastFrom_76 (by decide) ?_
                  refine lv_iadd hx hb dX2_leastFrom_80 ?_
                  refine lv_istore (lv' := [(9, .int (((nI hs9) + (nI (wr j))) + 3)), (8, .int (if ndC lt cu l w j then 1 else 0)), (0, .ref (ad 7 0)), (1, .int (nI pl)), (2, .int (nI mask)), (3, .int l), (4, .int w), (5, .int (nI hs9)), (6, .int (nI (laU lt cu wr N f mask l w hs9 j))), (7, .int (nI j))]) hx hb dX2_leastFrom_81 hl (by decide) rfl (fun ls hl => ?_)
                  refine lv_iload hx hb dX2_leastFrom_83 (lv_at hl 8 rfl) ?_
                  refine lv_aload_n hx hb dX2_leastFrom_85 rfl (lv_at hl 2 rfl) ?_
                  refine lv_iload_n hx hb dX2_leastFrom_86 rfl (lv_at hl 3 rfl) ?_
                  refine lv_iconst (v := 1) hx hb dX2_leastFrom_87 (by decide) ?_
                  refine lv_iadd hx hb dX2_leastFrom_88 ?_
                  refine lv_iload_n hx hb dX2_leastFrom_89 rfl (lv_at hl 4 rfl) ?_
                  refine lv_iconst (v := 1) hx hb dX2_leastFrom_90 (by decide) ?_
                  refine lv_iload hx hb dX2_leastFrom_91 (lv_at hl 9 rfl) ?_
                  refine lv_ishl hx hb dX2_leastFrom_93 ?_
                  refine lv_ior hx hb dX2_leastFrom_94 ?_
                  refine lv_aload_n hx hb dX2_leastFrom_95 rfl (lv_at hl 2 rfl) ?_
                  refine x_get (K := 7) (i := 0) (v := .ref (ad 9 0)) hx hb hts hinX2 hown hK hX (show 0 < 1 from Nat.zero_lt_one) 1 rfl rfl (by decide) rfl lk15 rfl dX2_leastFrom_96 ?_
                  refine lv_iload hx hb dX2_leastFrom_99 (lv_at hl 9 rfl) ?_
                  refine x_iald (K := 9) (i := 0) (n := 6) (f := (τ 1)) (j := (nI j)) (x := (lt j)) hx hb hK hX Nat.zero_lt_one rfl (vin_nI (Nat.lt_of_lt_of_le hj1 hPL.1.1) (by decide)) ((congrArg (τ 1) (ti_nI (by omega))).trans (hPL.2 j hj1).1) dX2_leastFrom_101 ?_
                  refine lv_iload hx hb dX2_leastFrom_102 (lv_at hl 1 rfl) ?_
                  refine br_if_eq (c9 := ndC lt cu l w j) (tgt := 111) hx hb dX2_leastFrom_104 (by decide) (fun c_12 => ?_) (fun c_12 => ?_)
                  · exact absurd hnd c_12
                  · refine lv_iconst (v := (-1)) hx hb dX2_leastFrom_107 (by decide) ?_
                    refine lv_goto (tgt := 113) hx hb dX2_leastFrom_108 (by decide) ?_
                    refine lv_iload hx hb dX2_leastFrom_113 (lv_at hl 0 rfl) ?_
                    rw [nI_1 pl, (bit_at hm9 (show j < 6 from by omega)).2.1, show ((nI hs9 + nI (wr j)) + 3 : Int32) = nI (hs9 + wr j + 3) from by rw [nI_add, show (3 : Int32) = nI 3 from rfl, nI_add]]
                    have hw9 := (hPL.2 j hj1).2.2.2
                    refine xsn_ro (n := 6) (As := [.ref (ad 7 0), .int (nI (pl + 1)), .int (nI (mask ||| (1 <<< j))), .int (lt j), .int (-1), .int (nI (hs9 + wr j + 3))]) (rest := [.int (nI (laU lt cu wr N f mask l w hs9 j))]) (v := [.int (nI (laF lt cu wr N f (mask ||| (1 <<< j)) (lt j) (-1) (hs9 + wr j + 3)))]) ⟨hx, hb, hml, hown, hts⟩ hN hX (ih (pl + 1) (mask ||| (1 <<< j)) (lt j) (-1) (hs9 + wr j + 3) (by omega) (bit_at hm9 (show j < 6 from by omega)).2.2 (by omega)) gX2_leastFrom_X2_leastFrom rfl rfl rfl (by decide +kernel) ⟨(by show f + 2 + 1 ≤ f + 1 + 2; omega), (by show 8 + (10 + 11) + (29 * f + 44) ≤ 29 * (f + 1) + 44; omega)⟩ rfl hl.1 rfl (Nat.le_of_ble_eq_true rfl) dX2_leastFrom_115 ⟨Nat.zero_le _, Nat.zero_le _⟩ rfl ?_
                    refine va_mmin hx hb (hml.trans hl.1.symm) hown ml100 msmin mimin mcmin (by show 1 ≤ f + 1 + 2; omega) (by show 0 + 13 ≤ 29 * (f + 1) + 44; omega) (Nat.zero_le _) (Nat.zero_le _) dX2_leastFrom_118 ?_
                    refine lv_istore (lv' := [(6, .int (if (nI (laF lt cu wr N f (mask ||| (1 <<< j)) (lt j) (-1) (hs9 + wr j + 3))) < (nI (laU lt cu wr N f mask l w hs9 j)) then (nI (laF lt cu wr N f (mask ||| (1 <<< j)) (lt j) (-1) (hs9 + wr j + 3))) else (nI (laU lt cu wr N f mask l w hs9 j)))), (9, .int (((nI hs9) + (nI (wr j))) + 3)), (8, .int (if ndC lt cu l w j then 1 else 0)), (0, .ref (ad 7 0)), (1, .int (nI pl)), (2, .int (nI mask)), (3, .int l), (4, .int w), (5, .int (nI hs9)), (7, .int (nI j))]) hx hb dX2_leastFrom_121 hl (by decide) rfl (fun ls hl => ?_)
                    refine lv_iinc (v := ((nI j) + 1)) (lv' := [(7, .int ((nI j) + 1)), (6, .int (if (nI (laF lt cu wr N f (mask ||| (1 <<< j)) (lt j) (-1) (hs9 + wr j + 3))) < (nI (laU lt cu wr N f mask l w hs9 j)) then (nI (laF lt cu wr N f (mask ||| (1 <<< j)) (lt j) (-1) (hs9 + wr j + 3))) else (nI (laU lt cu wr N f mask l w hs9 j)))), (9, .int (((nI hs9) + (nI (wr j))) + 3)), (8, .int (if ndC lt cu l w j then 1 else 0)), (0, .ref (ad 7 0)), (1, .int (nI pl)), (2, .int (nI mask)), (3, .int l), (4, .int w), (5, .int (nI hs9))]) hx hb dX2_leastFrom_123 hl (k := 9) rfl rfl (by decide) rfl (fun ls hl => ?_)
                    refine lv_goto (tgt := 24) hx hb dX2_leastFrom_126 (by decide) ?_
                    have e_13 : ((nI (laU lt cu wr N f mask l w hs9 (j + 1))) : Int32) = (if (nI (laF lt cu wr N f (mask ||| (1 <<< j)) (lt j) (-1) (hs9 + wr j + 3))) < (nI (laU lt cu wr N f mask l w hs9 j)) then (nI (laF lt cu wr N f (mask ||| (1 <<< j)) (lt j) (-1) (hs9 + wr j + 3))) else (nI (laU lt cu wr N f mask l w hs9 j))) := (by first | exact congrArg nI (la_set lt cu wr N hbt) | exact (congrArg nI (la_c1 lt cu wr N hbt hnd)).trans (minI (Nat.lt_of_le_of_lt (laU_le lt cu wr N) (by decide)) (Nat.lt_of_le_of_lt (la_le lt cu wr N) (by decide))) | exact (congrArg nI (la_c0 lt cu wr N hbt hnd)).trans (minI (Nat.lt_of_le_of_lt (laU_le lt cu wr N) (by decide)) (Nat.lt_of_le_of_lt (la_le lt cu wr N) (by decide))))
                    have e_14 : ((nI (j + 1)) : Int32) = ((nI j) + 1) := (nI_1 j).symm
                    have hl2 : lv_has ls 10 [(0, .ref (ad 7 0)), (1, .int (nI pl)), (2, .int (nI mask)), (3, .int l), (4, .int w), (5, .int (nI hs9)), (6, .int (nI (laU lt cu wr N f mask l w hs9 (j + 1)))), (7, .int (nI (j + 1)))] := by
                      rw [e_13, e_14]
                      exact lv_sub hl [4, 5, 6, 7, 8, 9, 1, 0] rfl
                    exact ih_24 (j + 1) (by omega) (by omega) ls hl2
      have e_15 : ((nI (laU lt cu wr N f mask l w hs9 (0))) : Int32) = 1000000 := (by rw [laU_0]; rfl)
      have e_16 : ((nI (0)) : Int32) = 0 := (by first | rfl | (simp [-Int32.not_lt, -Int32.not_le, okL, okV, okO, okR, okD, isP, shP, c_1, c_2]; done) | (simp_all [-Int32.not_lt, -Int32.not_le, okL, okV, okO, okR, okD, isP, shP]; done))
      have hl2 : lv_has ls 10 [(0, .ref (ad 7 0)), (1, .int (nI pl)), (2, .int (nI mask)), (3, .int l), (4, .int w), (5, .int (nI hs9)), (6, .int (nI (laU lt cu wr N f mask l w hs9 (0)))), (7, .int (nI (0)))] := by
        rw [e_15, e_16]
        exact lv_sub hl [2, 3, 4, 5, 6, 7, 1, 0] rfl
      exact lp24 (N - 0 + 1) (0) (Nat.zero_le _) (Nat.lt_succ_self _) ls hl2
    · exact absurd (show nI pl < nI 6 from (nI_ltI (by omega) (by decide)).mpr (by omega)) c_2
theorem qX2_leastFrom (la : Launch) (g : EG) (ad : Nat → Nat → Nat) (σ : Sg) (u : Nat → Int64) (τ : Sg) (N : Nat) (lt cu : Nat → Int32) (wr : Nat → Nat) (hPL : PL τ N lt cu wr) : ∀ (f : Nat), ∀ (pl mask : Nat) (l w : Int32) (hs9 : Nat), pl + f = N → mask < 64 → hs9 ≤ 103 * pl → Met la yX2_leastFrom wsX2_leastFrom ({ frames := f + 2, cells := 0, slots := 0, locals := 29 * f + 44 } : Room) (va_Pc [.ref (ad 7 0), .int (nI pl), .int (nI mask), .int l, .int w, .int (nI hs9)] (fun U => XR g ad σ u τ U.heap ∧ KN g U)) (QR (.returned (some (.int (nI (laF lt cu wr N f mask l w hs9)))))) 0 0 (fun _ => False)
  | 0 => fun pl mask l w hs9 h1 h2 h3 => qX2_leastFrom_0 la g ad σ u τ N lt cu wr hPL pl mask l w hs9 h1 h2 h3
  | f + 1 => fun pl mask l w hs9 h1 h2 h3 => qX2_leastFrom_s la g ad σ u τ N lt cu wr hPL f pl mask l w hs9 h1 h2 h3 (qX2_leastFrom la g ad σ u τ N lt cu wr hPL f)
