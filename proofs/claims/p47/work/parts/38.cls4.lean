set_option maxHeartbeats 4000000 in
set_option maxRecDepth 100000 in
theorem qX6_lotsOf (la : Launch) (hst : la.stackTraces = false) (g : EG) (lo : Nat) (ad : Nat → Nat → Nat) (σ : Sg) (u : Nat → Int64) (τ : Sg) (hI : INV σ) (hA : XA lo ad σ) (o : Int32) : vx_Met la yX6_lotsOf wsX6_lotsOf ({ frames := 7, cells := 1, slots := 6, locals := 122 } : Room) (va_Pc [.ref (ad 0 0), .int o] (fun U => XR g ad σ u τ U.heap ∧ EV g lo U)) (QX (exOf 1 0 0 (tO σ o)) (.returned (some (.int (c_lots σ o (nL σ)))))) (XX (exOf 1 0 0 (tO σ o))) 1 6 (fun _ => False) := by
  refine vx_ofW (cc := cX6_lotsOf) (maxL := 8) (ret := (some .int)) (by decide) rfl ?_
  intro p e s m args below meth c s₁ B hml ht hv
  obtain ⟨rfl, hX, hE⟩ := hv
  have hK := hE.1
  have hx := B.exec
  have hb := B.bytes
  have hr := B.returns
  have hts := atoms_spec (ws := wsX6_lotsOf) B.pre
  have hown : s.vm.findClass RX6 = some m.cls := findClass_of_methodNamed B.named
  have hlocks := B.notSynchronized
  have hinX0 : ∀ w ∈ wsX00, w ∈ wsX6_lotsOf := by decide +kernel
  have hinX6 : ∀ w ∈ wsX60, w ∈ wsX6_lotsOf := by decide +kernel
  have lk23 := hts (.fieldLink RX6 23 "DyehouseLedger" "allLots" "[LDyehouseLedger$Lot;") (by decide +kernel)
  have lk236 := hts (.fieldLink RX6 236 "DyehouseLedger$Lot" "order" "LDyehouseLedger$Order;") (by decide +kernel)
  have hl := lv_entry ([.ref (ad 0 0), .int o]) (n := 8) (Nat.le_of_ble_eq_true rfl)
  rw [lg_entry_eq]
  generalize (lg_sl ([.ref (ad 0 0), .int o]) ++ List.replicate (8 - (lg_sl ([.ref (ad 0 0), .int o])).length) Slot.unset).toArray = ls at hl ⊢
  have hl : lv_has ls 8 [(0, .ref (ad 0 0)), (1, .int o)] := hl
  have hbL := hI.l.1
  have hbO := hI.o.1
  have hbV := hI.v.1
  by_cases ko9 : okO σ o
  · obtain ⟨a, ha, rfl⟩ := vp_in_of ((okO_in hI o).mp ko9) (Nat.lt_of_le_of_lt hI.o.1 (by decide))
    have hba : nO σ ≤ _ := hI.o.1
    have eta : ti (nI a) = a := ti_nI (by omega)
    refine lv_aload_n hx hb dX6_lotsOf_0 rfl (lv_at hl 0 rfl) ?_
    refine lv_iload_n hx hb dX6_lotsOf_1 rfl (lv_at hl 1 rfl) ?_
    refine xc_v (n := 1) (As := [.int (nI a)]) (rest := []) (v := [.ref (ad 15 a)]) ⟨hx, hb, hml, hown, hts⟩ hE hX ht hlocks (fun q => absurd (show eO σ (nI a) = 0 from if_pos ko9) q) (qX6_orderNumbered la hst g lo ad σ u τ hI (nI a)) gX6_lotsOf_X6_orderNumbered rfl rfl rfl (by decide +kernel) ⟨Nat.le_of_ble_eq_true rfl, Nat.le_of_ble_eq_true rfl⟩ rfl hl.1 rfl (Nat.le_of_ble_eq_true rfl) dX6_lotsOf_2 ⟨Nat.le_of_ble_eq_true rfl, Nat.le_of_ble_eq_true rfl⟩ ⟨Nat.le_of_ble_eq_true rfl, Nat.le_of_ble_eq_true rfl⟩ (fun _ => congrArg (fun z => [Value.ref (ad 15 z)]) (ti_nI (by omega))) (fun h_1 => ?_)
    refine lv_astore_n (lv' := [(2, .ref (ad 15 a)), (0, .ref (ad 0 0)), (1, .int (nI a))]) hx hb dX6_lotsOf_5 rfl hl (by decide) rfl (fun ls hl => ?_)
    refine lv_iconst (v := 0) hx hb dX6_lotsOf_6 (by decide) ?_
    refine lv_istore_n (lv' := [(3, .int 0), (2, .ref (ad 15 a)), (0, .ref (ad 0 0)), (1, .int (nI a))]) hx hb dX6_lotsOf_7 rfl hl (by decide) rfl (fun ls hl => ?_)
    refine lv_aload_n hx hb dX6_lotsOf_8 rfl (lv_at hl 2 rfl) ?_
    refine x_get (K := 0) (i := 0) (v := .ref (ad 3 0)) hx hb hts hinX6 hown hK hX (show 0 < 1 from Nat.zero_lt_one) 2 rfl rfl (by decide) rfl lk23 rfl dX6_lotsOf_9 ?_
    refine lv_astore (lv' := [(4, .ref (ad 3 0)), (3, .int 0), (2, .ref (ad 15 a)), (0, .ref (ad 0 0)), (1, .int (nI a))]) hx hb dX6_lotsOf_12 hl (by decide) rfl (fun ls hl => ?_)
    refine lv_aload hx hb dX6_lotsOf_14 (lv_at hl 0 rfl) ?_
    refine x_alen (K := 3) (t0 := 3) (v := 24) hx hb hK hX (show 0 < 1 from Nat.zero_lt_one) rfl rfl rfl dX6_lotsOf_16 ?_
    refine lv_istore (lv' := [(5, .int 24), (4, .ref (ad 3 0)), (3, .int 0), (2, .ref (ad 15 a)), (0, .ref (ad 0 0)), (1, .int (nI a))]) hx hb dX6_lotsOf_17 hl (by decide) rfl (fun ls hl => ?_)
    refine lv_iconst (v := 0) hx hb dX6_lotsOf_19 (by decide) ?_
    refine lv_istore (lv' := [(6, .int 0), (5, .int 24), (4, .ref (ad 3 0)), (3, .int 0), (2, .ref (ad 15 a)), (0, .ref (ad 0 0)), (1, .int (nI a))]) hx hb dX6_lotsOf_20 hl (by decide) rfl (fun ls hl => ?_)
    have lp22 : ∀ (n9 : Nat) (j : Nat), (j ≤ 24) → 24 - j < n9 → ∀ (ls : Array Slot), lv_has ls 8 [(0, .ref (ad 0 0)), (1, .int (nI a)), (2, .ref (ad 15 a)), (3, .int (cutN σ (fun y => if σ 14 y = nI a then 1 else 0) j)), (4, .ref (ad 3 0)), (5, .int 24), (6, .int (nI j))] → W p la e ({ frames := 7, cells := 1, slots := 6, locals := 122 } : Room) s m ([.ref (ad 0 0), .int (nI a)] : List Value).toArray below meth c s.heap [] 1 6 (vx_MQ below (QX (exOf 1 0 0 (tO σ (nI a))) (.returned (some (.int (c_lots σ (nI a) (nL σ)))))) (XX (exOf 1 0 0 (tO σ (nI a)))) ([.ref (ad 0 0), .int (nI a)] : List Value).toArray s 1 6 (fun _ => False)) (F0 m 22 ls []) := by
      intro n9_22
      induction n9_22 with
      | zero => intro j _ h9 ; exact absurd h9 (Nat.not_lt_zero _)
      | succ n9_22 ih_22 =>
        intro j hj h9 ls hl
        refine lv_iload hx hb dX6_lotsOf_22 (lv_at hl 6 rfl) ?_
        refine lv_iload hx hb dX6_lotsOf_24 (lv_at hl 5 rfl) ?_
        refine lv_icmp_ge (tgt := 59) hx hb dX6_lotsOf_26 (by decide) (fun c_2 => ?_) (fun c_2 => ?_)
        · replace c_2 := Int32.not_lt.mpr c_2
          obtain rfl : j = 24 := ge24 hj c_2
          refine lv_iload_n hx hb dX6_lotsOf_59 rfl (lv_at hl 3 rfl) ?_
          refine vx_ret ?_
          refine W.widen (k := 1) (n := 6) (Nat.le_of_ble_eq_true rfl) (Nat.le_of_ble_eq_true rfl) ?_
          exact W.iret (v := (cutN σ (fun y => if σ 14 y = nI a then 1 else 0) 24)) hx hb hr (fun t ht9 hW => ⟨(show (exOf 1 0 0 (tO σ (nI a))) = 0 from by rw [show (tO σ (nI a)) = 0 from (by simp only [tD, tL, tV, tO, tW, tLV, tN, t_needs, t_plannedAt, t_shadeOf, t_dist, t_near, t_cell, t_byLight, t_dues, t_share, t_mean, okW, eta]; (repeat' split) <;> first | rfl | contradiction | (exfalso; simp_all [-Int32.not_lt, -Int32.not_le]; done))]; rfl), congrArg (fun z => Outcome.returned (some (Value.int z))) (clotsNI hI a), ht9⟩) (fun _ h => nomatch h) dX6_lotsOf_60
        · replace c_2 := Int32.not_le.mp c_2
          have hj1 : j < 24 := lt24 hj c_2
          refine lv_aload hx hb dX6_lotsOf_29 (lv_at hl 4 rfl) ?_
          refine lv_iload hx hb dX6_lotsOf_31 (lv_at hl 6 rfl) ?_
          by_cases z_3 : j < nL σ
          · refine x_aald (K := 3) (t0 := 3) (C := RX0) (n := 24) (f := refA ad 16 (nL σ)) (j := (nI j)) (v := .ref (ad 16 j)) hx hb hK hX (show 0 < 1 from Nat.zero_lt_one) rfl rfl (vin_nI hj1 (by decide)) (by rw [(ti_nI (by omega))]; exact refA_in z_3) dX6_lotsOf_33 ?_
            refine lv_astore (lv' := [(7, .ref (ad 16 j)), (0, .ref (ad 0 0)), (1, .int (nI a)), (2, .ref (ad 15 a)), (3, .int (cutN σ (fun y => if σ 14 y = nI a then 1 else 0) j)), (4, .ref (ad 3 0)), (5, .int 24), (6, .int (nI j))]) hx hb dX6_lotsOf_34 hl (by decide) rfl (fun ls hl => ?_)
            refine lv_aload hx hb dX6_lotsOf_36 (lv_at hl 0 rfl) ?_
            refine lv_ifnull hx hb dX6_lotsOf_38 ?_
            refine lv_aload hx hb dX6_lotsOf_41 (lv_at hl 0 rfl) ?_
            refine x_get (K := 16) (i := j) (v := .ref (ad 15 (ti (σ 14 j)))) hx hb hts hinX0 hown hK hX z_3 1 rfl rfl (by decide) rfl lk236 rfl dX6_lotsOf_43 ?_
            refine lv_aload_n hx hb dX6_lotsOf_46 rfl (lv_at hl 3 rfl) ?_
            refine x_acmp_ne (tgt := 53) hx hb dX6_lotsOf_47 (by decide) (fun c_4 => ?_) (fun c_4 => ?_)
            · replace c_4 := fun q => c_4 ((xa_iff hA (K := 15) (vin_lt (hI.2.2.1 _ z_3)) ha).mpr q)
              replace c_4 : ¬ (σ 14 j) = nI a := fun q => c_4 ((ti_eq (vin_mono (hI.2.2.1 _ z_3) hI.o.1) (by decide)).mpr q)
              refine lv_iinc (v := ((nI j) + 1)) (lv' := [(6, .int ((nI j) + 1)), (7, .ref (ad 16 j)), (0, .ref (ad 0 0)), (1, .int (nI a)), (2, .ref (ad 15 a)), (3, .int (cutN σ (fun y => if σ 14 y = nI a then 1 else 0) j)), (4, .ref (ad 3 0)), (5, .int 24)]) hx hb dX6_lotsOf_53 hl (k := 7) rfl rfl (by decide) rfl (fun ls hl => ?_)
              refine lv_goto (tgt := 22) hx hb dX6_lotsOf_56 (by decide) ?_
              have e_5 : ((cutN σ (fun y => if σ 14 y = nI a then 1 else 0) (j + 1)) : Int32) = (cutN σ (fun y => if σ 14 y = nI a then 1 else 0) j) := (by first | rfl | (simp only [cutN_s]; (repeat' split) <;> first | rfl | contradiction | exact Int32.add_zero _ | exact Int64.add_zero _ | (exfalso; simp_all [-Int32.not_lt, -Int32.not_le]; done)) | (simp only [cutN_s]; simp_all [-Int32.not_lt, -Int32.not_le]; done))
              have e_6 : ((nI (j + 1)) : Int32) = ((nI j) + 1) := (nI_1 j).symm
              have hl2 : lv_has ls 8 [(0, .ref (ad 0 0)), (1, .int (nI a)), (2, .ref (ad 15 a)), (3, .int (cutN σ (fun y => if σ 14 y = nI a then 1 else 0) (j + 1))), (4, .ref (ad 3 0)), (5, .int 24), (6, .int (nI (j + 1)))] := by
                rw [e_5, e_6]
                exact lv_sub hl [2, 3, 4, 5, 6, 7, 0] rfl
              exact ih_22 (j + 1) (by omega) (by omega) ls hl2
            · replace c_4 := (xa_iff hA (K := 15) (vin_lt (hI.2.2.1 _ z_3)) ha).mp c_4
              replace c_4 := (ti_eq (vin_mono (hI.2.2.1 _ z_3) hI.o.1) (by decide)).mp c_4
              refine lv_iinc (v := ((cutN σ (fun y => if σ 14 y = nI a then 1 else 0) j) + 1)) (lv' := [(3, .int ((cutN σ (fun y => if σ 14 y = nI a then 1 else 0) j) + 1)), (7, .ref (ad 16 j)), (0, .ref (ad 0 0)), (1, .int (nI a)), (2, .ref (ad 15 a)), (4, .ref (ad 3 0)), (5, .int 24), (6, .int (nI j))]) hx hb dX6_lotsOf_50 hl (k := 4) rfl rfl (by decide) rfl (fun ls hl => ?_)
              refine lv_iinc (v := ((nI j) + 1)) (lv' := [(6, .int ((nI j) + 1)), (3, .int ((cutN σ (fun y => if σ 14 y = nI a then 1 else 0) j) + 1)), (7, .ref (ad 16 j)), (0, .ref (ad 0 0)), (1, .int (nI a)), (2, .ref (ad 15 a)), (4, .ref (ad 3 0)), (5, .int 24)]) hx hb dX6_lotsOf_53 hl (k := 7) rfl rfl (by decide) rfl (fun ls hl => ?_)
              refine lv_goto (tgt := 22) hx hb dX6_lotsOf_56 (by decide) ?_
              have e_7 : ((cutN σ (fun y => if σ 14 y = nI a then 1 else 0) (j + 1)) : Int32) = ((cutN σ (fun y => if σ 14 y = nI a then 1 else 0) j) + 1) := (by first | rfl | (simp only [cutN_s]; (repeat' split) <;> first | rfl | contradiction | exact Int32.add_zero _ | exact Int64.add_zero _ | (exfalso; simp_all [-Int32.not_lt, -Int32.not_le]; done)) | (simp only [cutN_s]; simp_all [-Int32.not_lt, -Int32.not_le]; done))
              have e_8 : ((nI (j + 1)) : Int32) = ((nI j) + 1) := (nI_1 j).symm
              have hl2 : lv_has ls 8 [(0, .ref (ad 0 0)), (1, .int (nI a)), (2, .ref (ad 15 a)), (3, .int (cutN σ (fun y => if σ 14 y = nI a then 1 else 0) (j + 1))), (4, .ref (ad 3 0)), (5, .int 24), (6, .int (nI (j + 1)))] := by
                rw [e_7, e_8]
                exact lv_sub hl [3, 4, 5, 1, 6, 7, 0] rfl
              exact ih_22 (j + 1) (by omega) (by omega) ls hl2
          · refine x_aald (K := 3) (t0 := 3) (C := RX0) (n := 24) (f := refA ad 16 (nL σ)) (j := (nI j)) (v := .null) hx hb hK hX (show 0 < 1 from Nat.zero_lt_one) rfl rfl (vin_nI hj1 (by decide)) (by rw [(ti_nI (by omega))]; exact refA_no z_3) dX6_lotsOf_33 ?_
            refine lv_astoreN (lv' := [(7, .null), (0, .ref (ad 0 0)), (1, .int (nI a)), (2, .ref (ad 15 a)), (3, .int (cutN σ (fun y => if σ 14 y = nI a then 1 else 0) j)), (4, .ref (ad 3 0)), (5, .int 24), (6, .int (nI j))]) hx hb dX6_lotsOf_34 hl (by decide) rfl (fun ls hl => ?_)
            refine lv_aloadN hx hb dX6_lotsOf_36 (lv_at hl 0 rfl) ?_
            refine lv_ifnullN (tgt := 53) hx hb dX6_lotsOf_38 (by decide) ?_
            refine lv_iinc (v := ((nI j) + 1)) (lv' := [(6, .int ((nI j) + 1)), (7, .null), (0, .ref (ad 0 0)), (1, .int (nI a)), (2, .ref (ad 15 a)), (3, .int (cutN σ (fun y => if σ 14 y = nI a then 1 else 0) j)), (4, .ref (ad 3 0)), (5, .int 24)]) hx hb dX6_lotsOf_53 hl (k := 7) rfl rfl (by decide) rfl (fun ls hl => ?_)
            refine lv_goto (tgt := 22) hx hb dX6_lotsOf_56 (by decide) ?_
            have e_9 : ((cutN σ (fun y => if σ 14 y = nI a then 1 else 0) (j + 1)) : Int32) = (cutN σ (fun y => if σ 14 y = nI a then 1 else 0) j) := (by first | rfl | (simp only [cutN_s]; (repeat' split) <;> first | rfl | contradiction | exact Int32.add_zero _ | exact Int64.add_zero _ | (exfalso; simp_all [-Int32.not_lt, -Int32.not_le]; done)) | (simp only [cutN_s]; simp_all [-Int32.not_lt, -Int32.not_le]; done))
            have e_10 : ((nI (j + 1)) : Int32) = ((nI j) + 1) := (nI_1 j).symm
            have hl2 : lv_has ls 8 [(0, .ref (ad 0 0)), (1, .int (nI a)), (2, .ref (ad 15 a)), (3, .int (cutN σ (fun y => if σ 14 y = nI a then 1 else 0) (j + 1))), (4, .ref (ad 3 0)), (5, .int 24), (6, .int (nI (j + 1)))] := by
              rw [e_9, e_10]
              exact lv_sub hl [2, 3, 4, 5, 6, 7, 0] rfl
            exact ih_22 (j + 1) (by omega) (by omega) ls hl2
    have e_11 : ((cutN σ (fun y => if σ 14 y = nI a then 1 else 0) (0)) : Int32) = 0 := (by first | rfl | (simp only [cutN_s]; (repeat' split) <;> first | rfl | contradiction | exact Int32.add_zero _ | exact Int64.add_zero _ | (exfalso; simp_all [-Int32.not_lt, -Int32.not_le]; done)) | (simp only [cutN_s]; simp_all [-Int32.not_lt, -Int32.not_le]; done))
    have e_12 : ((nI (0)) : Int32) = 0 := (by first | rfl | (simp only [cutN_s]; (repeat' split) <;> first | rfl | contradiction | exact Int32.add_zero _ | exact Int64.add_zero _ | (exfalso; simp_all [-Int32.not_lt, -Int32.not_le]; done)) | (simp only [cutN_s]; simp_all [-Int32.not_lt, -Int32.not_le]; done))
    have hl2 : lv_has ls 8 [(0, .ref (ad 0 0)), (1, .int (nI a)), (2, .ref (ad 15 a)), (3, .int (cutN σ (fun y => if σ 14 y = nI a then 1 else 0) (0))), (4, .ref (ad 3 0)), (5, .int 24), (6, .int (nI (0)))] := by
      rw [e_11, e_12]
      exact lv_sub hl [5, 6, 4, 3, 2, 1, 0] rfl
    exact lp22 (24 - 0 + 1) (0) (Nat.zero_le _) (Nat.lt_succ_self _) ls hl2
  · refine lv_aload_n hx hb dX6_lotsOf_0 rfl (lv_at hl 0 rfl) ?_
    refine lv_iload_n hx hb dX6_lotsOf_1 rfl (lv_at hl 1 rfl) ?_
    refine xc_v (n := 1) (As := [.int o]) (rest := []) (v := [.ref (ad 15 (ti o))]) ⟨hx, hb, hml, hown, hts⟩ hE hX ht hlocks (fun _ => ((show (exOf 1 0 0 (tO σ o)) = 1 from by rw [show (tO σ o) = 1 from (by simp only [tD, tL, tV, tO, tW, tLV, tN, t_needs, t_plannedAt, t_shadeOf, t_dist, t_near, t_cell, t_byLight, t_dues, t_share, t_mean, okW]; (repeat' split) <;> first | rfl | contradiction | (exfalso; simp_all [-Int32.not_lt, -Int32.not_le]; done))]; rfl)).trans (show eO σ o = 1 from if_neg ko9).symm) (qX6_orderNumbered la hst g lo ad σ u τ hI o) gX6_lotsOf_X6_orderNumbered rfl rfl rfl (by decide +kernel) ⟨Nat.le_of_ble_eq_true rfl, Nat.le_of_ble_eq_true rfl⟩ rfl hl.1 rfl (Nat.le_of_ble_eq_true rfl) dX6_lotsOf_2 ⟨Nat.le_of_ble_eq_true rfl, Nat.le_of_ble_eq_true rfl⟩ ⟨Nat.le_of_ble_eq_true rfl, Nat.le_of_ble_eq_true rfl⟩ (fun _ => rfl) (fun h_14 => ?_)
    exact absurd h_14 (by rw [show eO σ o = 1 from if_neg ko9]; decide)
set_option maxHeartbeats 4000000 in
set_option maxRecDepth 100000 in
theorem qX6_spread (la : Launch) (hst : la.stackTraces = false) (g : EG) (lo : Nat) (ad : Nat → Nat → Nat) (σ : Sg) (u : Nat → Int64) (τ : Sg) (hI : INV σ) (hA : XA lo ad σ) (o : Int32) : vx_Met la yX6_spread wsX6_spread ({ frames := 7, cells := 1, slots := 6, locals := 122 } : Room) (va_Pc [.ref (ad 0 0), .int o] (fun U => XR g ad σ u τ U.heap ∧ EV g lo U)) (QX (exOf 1 0 0 (tO σ o)) (.returned (some (.int (spO σ o (nL σ)))))) (XX (exOf 1 0 0 (tO σ o))) 1 6 (fun _ => False) := by
  refine vx_ofW (cc := cX6_spread) (maxL := 8) (ret := (some .int)) (by decide) rfl ?_
  intro p e s m args below meth c s₁ B hml ht hv
  obtain ⟨rfl, hX, hE⟩ := hv
  have hK := hE.1
  have hx := B.exec
  have hb := B.bytes
  have hr := B.returns
  have hts := atoms_spec (ws := wsX6_spread) B.pre
  have hown : s.vm.findClass RX6 = some m.cls := findClass_of_methodNamed B.named
  have hlocks := B.notSynchronized
  have hinX6 : ∀ w ∈ wsX60, w ∈ wsX6_spread := by decide +kernel
  have lk23 := hts (.fieldLink RX6 23 "DyehouseLedger" "allLots" "[LDyehouseLedger$Lot;") (by decide +kernel)
  have mcmax := hts (.code Lib.Math.max.name Lib.Math.max.code 2 (some .int)) (by decide +kernel)
  have mimax := hts (.initialized "java/lang/Math") (by decide +kernel)
  have ml247 := hts (.methodLink RX6 247 Lib.Math.max.name) (by decide +kernel)
  have msmax := hts (.static Lib.Math.max.name) (by decide +kernel)
  have hl := lv_entry ([.ref (ad 0 0), .int o]) (n := 8) (Nat.le_of_ble_eq_true rfl)
  rw [lg_entry_eq]
  generalize (lg_sl ([.ref (ad 0 0), .int o]) ++ List.replicate (8 - (lg_sl ([.ref (ad 0 0), .int o])).length) Slot.unset).toArray = ls at hl ⊢
  have hl : lv_has ls 8 [(0, .ref (ad 0 0)), (1, .int o)] := hl
  have hbL := hI.l.1
  have hbO := hI.o.1
  have hbV := hI.v.1
  by_cases ko9 : okO σ o
  · obtain ⟨a, ha, rfl⟩ := vp_in_of ((okO_in hI o).mp ko9) (Nat.lt_of_le_of_lt hI.o.1 (by decide))
    have hba : nO σ ≤ _ := hI.o.1
    have eta : ti (nI a) = a := ti_nI (by omega)
    refine lv_aload_n hx hb dX6_spread_0 rfl (lv_at hl 0 rfl) ?_
    refine lv_iload_n hx hb dX6_spread_1 rfl (lv_at hl 1 rfl) ?_
    refine xc_v (n := 1) (As := [.int (nI a)]) (rest := []) (v := [.ref (ad 15 a)]) ⟨hx, hb, hml, hown, hts⟩ hE hX ht hlocks (fun q => absurd (show eO σ (nI a) = 0 from if_pos ko9) q) (qX6_orderNumbered la hst g lo ad σ u τ hI (nI a)) gX6_spread_X6_orderNumbered rfl rfl rfl (by decide +kernel) ⟨Nat.le_of_ble_eq_true rfl, Nat.le_of_ble_eq_true rfl⟩ rfl hl.1 rfl (Nat.le_of_ble_eq_true rfl) dX6_spread_2 ⟨Nat.le_of_ble_eq_true rfl, Nat.le_of_ble_eq_true rfl⟩ ⟨Nat.le_of_ble_eq_true rfl, Nat.le_of_ble_eq_true rfl⟩ (fun _ => congrArg (fun z => [Value.ref (ad 15 z)]) (ti_nI (by omega))) (fun h_1 => ?_)
    refine lv_astore_n (lv' := [(2, .ref (ad 15 a)), (0, .ref (ad 0 0)), (1, .int (nI a))]) hx hb dX6_spread_5 rfl hl (by decide) rfl (fun ls hl => ?_)
    refine lv_iconst (v := 0) hx hb dX6_spread_6 (by decide) ?_
    refine lv_istore_n (lv' := [(3, .int 0), (2, .ref (ad 15 a)), (0, .ref (ad 0 0)), (1, .int (nI a))]) hx hb dX6_spread_7 rfl hl (by decide) rfl (fun ls hl => ?_)
    refine lv_aload_n hx hb dX6_spread_8 rfl (lv_at hl 2 rfl) ?_
    refine x_get (K := 0) (i := 0) (v := .ref (ad 3 0)) hx hb hts hinX6 hown hK hX (show 0 < 1 from Nat.zero_lt_one) 2 rfl rfl (by decide) rfl lk23 rfl dX6_spread_9 ?_
    refine lv_astore (lv' := [(4, .ref (ad 3 0)), (3, .int 0), (2, .ref (ad 15 a)), (0, .ref (ad 0 0)), (1, .int (nI a))]) hx hb dX6_spread_12 hl (by decide) rfl (fun ls hl => ?_)
    refine lv_aload hx hb dX6_spread_14 (lv_at hl 0 rfl) ?_
    refine x_alen (K := 3) (t0 := 3) (v := 24) hx hb hK hX (show 0 < 1 from Nat.zero_lt_one) rfl rfl rfl dX6_spread_16 ?_
    refine lv_istore (lv' := [(5, .int 24), (4, .ref (ad 3 0)), (3, .int 0), (2, .ref (ad 15 a)), (0, .ref (ad 0 0)), (1, .int (nI a))]) hx hb dX6_spread_17 hl (by decide) rfl (fun ls hl => ?_)
    refine lv_iconst (v := 0) hx hb dX6_spread_19 (by decide) ?_
    refine lv_istore (lv' := [(6, .int 0), (5, .int 24), (4, .ref (ad 3 0)), (3, .int 0), (2, .ref (ad 15 a)), (0, .ref (ad 0 0)), (1, .int (nI a))]) hx hb dX6_spread_20 hl (by decide) rfl (fun ls hl => ?_)
    have lp22 : ∀ (n9 : Nat) (j : Nat), (j ≤ 24) → 24 - j < n9 → ∀ (ls : Array Slot), lv_has ls 8 [(0, .ref (ad 0 0)), (1, .int (nI a)), (2, .ref (ad 15 a)), (3, .int (spCl σ a j)), (4, .ref (ad 3 0)), (5, .int 24), (6, .int (nI j))] → W p la e ({ frames := 7, cells := 1, slots := 6, locals := 122 } : Room) s m ([.ref (ad 0 0), .int (nI a)] : List Value).toArray below meth c s.heap [] 1 6 (vx_MQ below (QX (exOf 1 0 0 (tO σ (nI a))) (.returned (some (.int (spO σ (nI a) (nL σ)))))) (XX (exOf 1 0 0 (tO σ (nI a)))) ([.ref (ad 0 0), .int (nI a)] : List Value).toArray s 1 6 (fun _ => False)) (F0 m 22 ls []) := by
      intro n9_22
      induction n9_22 with
      | zero => intro j _ h9 ; exact absurd h9 (Nat.not_lt_zero _)
      | succ n9_22 ih_22 =>
        intro j hj h9 ls hl
        refine lv_iload hx hb dX6_spread_22 (lv_at hl 6 rfl) ?_
        refine lv_iload hx hb dX6_spread_24 (lv_at hl 5 rfl) ?_
        refine lv_icmp_ge (tgt := 67) hx hb dX6_spread_26 (by decide) (fun c_2 => ?_) (fun c_2 => ?_)
        · replace c_2 := Int32.not_lt.mpr c_2
          obtain rfl : j = 24 := ge24 hj c_2
          refine lv_iload_n hx hb dX6_spread_67 rfl (lv_at hl 3 rfl) ?_
          refine vx_ret ?_
          refine W.widen (k := 1) (n := 6) (Nat.le_of_ble_eq_true rfl) (Nat.le_of_ble_eq_true rfl) ?_
          exact W.iret (v := (spCl σ a 24)) hx hb hr (fun t ht9 hW => ⟨(show (exOf 1 0 0 (tO σ (nI a))) = 0 from by rw [show (tO σ (nI a)) = 0 from (by simp only [tD, tL, tV, tO, tW, tLV, tN, t_needs, t_plannedAt, t_shadeOf, t_dist, t_near, t_cell, t_byLight, t_dues, t_share, t_mean, okW, eta]; (repeat' split) <;> first | rfl | contradiction | (exfalso; simp_all [-Int32.not_lt, -Int32.not_le]; done))]; rfl), congrArg (fun z => Outcome.returned (some (Value.int z))) (spreadNI hI a), ht9⟩) (fun _ h => nomatch h) dX6_spread_68
        · replace c_2 := Int32.not_le.mp c_2
          have hj1 : j < 24 := lt24 hj c_2
          refine lv_aload hx hb dX6_spread_29 (lv_at hl 4 rfl) ?_
          refine lv_iload hx hb dX6_spread_31 (lv_at hl 6 rfl) ?_
          by_cases z_3 : j < nL σ
          · refine x_aald (K := 3) (t0 := 3) (C := RX0) (n := 24) (f := refA ad 16 (nL σ)) (j := (nI j)) (v := .ref (ad 16 j)) hx hb hK hX (show 0 < 1 from Nat.zero_lt_one) rfl rfl (vin_nI hj1 (by decide)) (by rw [(ti_nI (by omega))]; exact refA_in z_3) dX6_spread_33 ?_
            refine lv_astore (lv' := [(7, .ref (ad 16 j)), (0, .ref (ad 0 0)), (1, .int (nI a)), (2, .ref (ad 15 a)), (3, .int (spCl σ a j)), (4, .ref (ad 3 0)), (5, .int 24), (6, .int (nI j))]) hx hb dX6_spread_34 hl (by decide) rfl (fun ls hl => ?_)
            refine lv_aload hx hb dX6_spread_36 (lv_at hl 0 rfl) ?_
            refine lv_ifnull hx hb dX6_spread_38 ?_
            refine lv_aload hx hb dX6_spread_41 (lv_at hl 0 rfl) ?_
            refine lv_aload_n hx hb dX6_spread_43 rfl (lv_at hl 3 rfl) ?_
            refine xc_ro (n := 1) (K := 16) (i := j) (As := [.ref (ad 15 a)]) (rest := []) (v := [.int (if σ 14 j = nI a ∧ σ 21 j = 112 then 1 else 0)]) ⟨hx, hb, hml, hown, hts⟩ hK hX z_3 rfl rfl (qX0_isPassedOf la g ad σ u τ hI lo hA j z_3 a ha) gX6_spread_X0_isPassedOf rfl rfl rfl (by decide +kernel) ⟨Nat.le_of_ble_eq_true rfl, Nat.le_of_ble_eq_true rfl⟩ rfl hl.1 rfl (Nat.le_of_ble_eq_true rfl) dX6_spread_44 ⟨Nat.le_of_ble_eq_true rfl, Nat.le_of_ble_eq_true rfl⟩ rfl ?_
            refine br_if_eq (c9 := σ 14 j = nI a ∧ σ 21 j = 112) (tgt := 61) hx hb dX6_spread_47 (by decide) (fun c_4 => ?_) (fun c_4 => ?_)
            · refine lv_iinc (v := ((nI j) + 1)) (lv' := [(6, .int ((nI j) + 1)), (7, .ref (ad 16 j)), (0, .ref (ad 0 0)), (1, .int (nI a)), (2, .ref (ad 15 a)), (3, .int (spCl σ a j)), (4, .ref (ad 3 0)), (5, .int 24)]) hx hb dX6_spread_61 hl (k := 7) rfl rfl (by decide) rfl (fun ls hl => ?_)
              refine lv_goto (tgt := 22) hx hb dX6_spread_64 (by decide) ?_
              have e_5 : ((spCl σ a (j + 1)) : Int32) = (spCl σ a j) := (by first | rfl | (simp only [spCl_s, spSt]; (repeat' split) <;> first | rfl | contradiction | exact Int32.add_zero _ | exact Int64.add_zero _ | (exfalso; simp_all [-Int32.not_lt, -Int32.not_le]; done)) | (simp only [spCl_s, spSt]; simp_all [-Int32.not_lt, -Int32.not_le]; done))
              have e_6 : ((nI (j + 1)) : Int32) = ((nI j) + 1) := (nI_1 j).symm
              have hl2 : lv_has ls 8 [(0, .ref (ad 0 0)), (1, .int (nI a)), (2, .ref (ad 15 a)), (3, .int (spCl σ a (j + 1))), (4, .ref (ad 3 0)), (5, .int 24), (6, .int (nI (j + 1)))] := by
                rw [e_5, e_6]
                exact lv_sub hl [2, 3, 4, 5, 6, 7, 0] rfl
              exact ih_22 (j + 1) (by omega) (by omega) ls hl2
            · refine lv_iload_n hx hb dX6_spread_50 rfl (lv_at hl 4 rfl) ?_
              refine lv_aload_n hx hb dX6_spread_51 rfl (lv_at hl 1 rfl) ?_
              refine lv_aload hx hb dX6_spread_52 (lv_at hl 0 rfl) ?_
              refine xc_ro (n := 1) (K := 0) (i := 0) (As := [.ref (ad 16 j)]) (rest := [.int (spCl σ a j)]) (v := [.int (greatF σ j 24)]) ⟨hx, hb, hml, hown, hts⟩ hK hX (show 0 < 1 from Nat.zero_lt_one) rfl rfl (qX6_greatestDistanceFromPassed la g ad σ u τ hI lo hA j z_3) gX6_spread_X6_greatestDistanceFromPassed rfl rfl rfl (by decide +kernel) ⟨Nat.le_of_ble_eq_true rfl, Nat.le_of_ble_eq_true rfl⟩ rfl hl.1 rfl (Nat.le_of_ble_eq_true rfl) dX6_spread_54 ⟨Nat.le_of_ble_eq_true rfl, Nat.le_of_ble_eq_true rfl⟩ rfl ?_
              refine va_mmax hx hb (hml.trans hl.1.symm) hown ml247 msmax mimax mcmax (Nat.le_of_ble_eq_true rfl) (Nat.le_of_ble_eq_true rfl) (Nat.le_of_ble_eq_true rfl) (Nat.le_of_ble_eq_true rfl) dX6_spread_57 ?_
              refine lv_istore_n (lv' := [(3, .int (if (spCl σ a j) < (greatF σ j 24) then (greatF σ j 24) else (spCl σ a j))), (7, .ref (ad 16 j)), (0, .ref (ad 0 0)), (1, .int (nI a)), (2, .ref (ad 15 a)), (4, .ref (ad 3 0)), (5, .int 24), (6, .int (nI j))]) hx hb dX6_spread_60 rfl hl (by decide) rfl (fun ls hl => ?_)
              refine lv_iinc (v := ((nI j) + 1)) (lv' := [(6, .int ((nI j) + 1)), (3, .int (if (spCl σ a j) < (greatF σ j 24) then (greatF σ j 24) else (spCl σ a j))), (7, .ref (ad 16 j)), (0, .ref (ad 0 0)), (1, .int (nI a)), (2, .ref (ad 15 a)), (4, .ref (ad 3 0)), (5, .int 24)]) hx hb dX6_spread_61 hl (k := 7) rfl rfl (by decide) rfl (fun ls hl => ?_)
              refine lv_goto (tgt := 22) hx hb dX6_spread_64 (by decide) ?_
              have e_7 : ((spCl σ a (j + 1)) : Int32) = (if (spCl σ a j) < (greatF σ j 24) then (greatF σ j 24) else (spCl σ a j)) := (by first | rfl | (simp only [spCl_s, spSt]; (repeat' split) <;> first | rfl | contradiction | exact Int32.add_zero _ | exact Int64.add_zero _ | (exfalso; simp_all [-Int32.not_lt, -Int32.not_le]; done)) | (simp only [spCl_s, spSt]; simp_all [-Int32.not_lt, -Int32.not_le]; done))
              have e_8 : ((nI (j + 1)) : Int32) = ((nI j) + 1) := (nI_1 j).symm
              have hl2 : lv_has ls 8 [(0, .ref (ad 0 0)), (1, .int (nI a)), (2, .ref (ad 15 a)), (3, .int (spCl σ a (j + 1))), (4, .ref (ad 3 0)), (5, .int 24), (6, .int (nI (j + 1)))] := by
                rw [e_7, e_8]
                exact lv_sub hl [3, 4, 5, 1, 6, 7, 0] rfl
              exact ih_22 (j + 1) (by omega) (by omega) ls hl2
          · refine x_aald (K := 3) (t0 := 3) (C := RX0) (n := 24) (f := refA ad 16 (nL σ)) (j := (nI j)) (v := .null) hx hb hK hX (show 0 < 1 from Nat.zero_lt_one) rfl rfl (vin_nI hj1 (by decide)) (by rw [(ti_nI (by omega))]; exact refA_no z_3) dX6_spread_33 ?_
            refine lv_astoreN (lv' := [(7, .null), (0, .ref (ad 0 0)), (1, .int (nI a)), (2, .ref (ad 15 a)), (3, .int (spCl σ a j)), (4, .ref (ad 3 0)), (5, .int 24), (6, .int (nI j))]) hx hb dX6_spread_34 hl (by decide) rfl (fun ls hl => ?_)
            refine lv_aloadN hx hb dX6_spread_36 (lv_at hl 0 rfl) ?_
            refine lv_ifnullN (tgt := 61) hx hb dX6_spread_38 (by decide) ?_
            refine lv_iinc (v := ((nI j) + 1)) (lv' := [(6, .int ((nI j) + 1)), (7, .null), (0, .ref (ad 0 0)), (1, .int (nI a)), (2, .ref (ad 15 a)), (3, .int (spCl σ a j)), (4, .ref (ad 3 0)), (5, .int 24)]) hx hb dX6_spread_61 hl (k := 7) rfl rfl (by decide) rfl (fun ls hl => ?_)
            refine lv_goto (tgt := 22) hx hb dX6_spread_64 (by decide) ?_
            have e_9 : ((spCl σ a (j + 1)) : Int32) = (spCl σ a j) := (by first | rfl | (simp only [spCl_s, spSt]; (repeat' split) <;> first | rfl | contradiction | exact Int32.add_zero _ | exact Int64.add_zero _ | (exfalso; simp_all [-Int32.not_lt, -Int32.not_le]; done)) | (simp only [spCl_s, spSt]; simp_all [-Int32.not_lt, -Int32.not_le]; done))
            have e_10 : ((nI (j + 1)) : Int32) = ((nI j) + 1) := (nI_1 j).symm
            have hl2 : lv_has ls 8 [(0, .ref (ad 0 0)), (1, .int (nI a)), (2, .ref (ad 15 a)), (3, .int (spCl σ a (j + 1))), (4, .ref (ad 3 0)), (5, .int 24), (6, .int (nI (j + 1)))] := by
              rw [e_9, e_10]
              exact lv_sub hl [2, 3, 4, 5, 6, 7, 0] rfl
            exact ih_22 (j + 1) (by omega) (by omega) ls hl2
    have e_11 : ((spCl σ a (0)) : Int32) = 0 := (by first | rfl | (simp only [spCl_s, spSt]; (repeat' split) <;> first | rfl | contradiction | exact Int32.add_zero _ | exact Int64.add_zero _ | (exfalso; simp_all [-Int32.not_lt, -Int32.not_le]; done)) | (simp only [spCl_s, spSt]; simp_all [-Int32.not_lt, -Int32.not_le]; done))
    have e_12 : ((nI (0)) : Int32) = 0 := (by first | rfl | (simp only [spCl_s, spSt]; (repeat' split) <;> first | rfl | contradiction | exact Int32.add_zero _ | exact Int64.add_zero _ | (exfalso; simp_all [-Int32.not_lt, -Int32.not_le]; done)) | (simp only [spCl_s, spSt]; simp_all [-Int32.not_lt, -Int32.not_le]; done))
    have hl2 : lv_has ls 8 [(0, .ref (ad 0 0)), (1, .int (nI a)), (2, .ref (ad 15 a)), (3, .int (spCl σ a (0))), (4, .ref (ad 3 0)), (5, .int 24), (6, .int (nI (0)))] := by
      rw [e_11, e_12]
      exact lv_sub hl [5, 6, 4, 3, 2, 1, 0] rfl
    exact lp22 (24 - 0 + 1) (0) (Nat.zero_le _) (Nat.lt_succ_self _) ls hl2
  · refine lv_aload_n hx hb dX6_spread_0 rfl (lv_at hl 0 rfl) ?_
    refine lv_iload_n hx hb dX6_spread_1 rfl (lv_at hl 1 rfl) ?_
    refine xc_v (n := 1) (As := [.int o]) (rest := []) (v := [.ref (ad 15 (ti o))]) ⟨hx, hb, hml, hown, hts⟩ hE hX ht hlocks (fun _ => ((show (exOf 1 0 0 (tO σ o)) = 1 from by rw [show (tO σ o) = 1 from (by simp only [tD, tL, tV, tO, tW, tLV, tN, t_needs, t_plannedAt, t_shadeOf, t_dist, t_near, t_cell, t_byLight, t_dues, t_share, t_mean, okW]; (repeat' split) <;> first | rfl | contradiction | (exfalso; simp_all [-Int32.not_lt, -Int32.not_le]; done))]; rfl)).trans (show eO σ o = 1 from if_neg ko9).symm) (qX6_orderNumbered la hst g lo ad σ u τ hI o) gX6_spread_X6_orderNumbered rfl rfl rfl (by decide +kernel) ⟨Nat.le_of_ble_eq_true rfl, Nat.le_of_ble_eq_true rfl⟩ rfl hl.1 rfl (Nat.le_of_ble_eq_true rfl) dX6_spread_2 ⟨Nat.le_of_ble_eq_true rfl, Nat.le_of_ble_eq_true rfl⟩ ⟨Nat.le_of_ble_eq_true rfl, Nat.le_of_ble_eq_true rfl⟩ (fun _ => rfl) (fun h_14 => ?_)
    exact absurd h_14 (by rw [show eO σ o = 1 from if_neg ko9]; decide)
theorem tw_inX6_plannedAt_5 : ∀ w ∈ (vx_at0 RX6 200 (en 5) exN).filter goodWord, w ∈ wsX6_plannedAt := by decide +kernel
set_option maxHeartbeats 4000000 in
set_option maxRecDepth 100000 in
theorem qX6_plannedAt (la : Launch) (hst : la.stackTraces = false) (g : EG) (lo : Nat) (ad : Nat → Nat → Nat) (σ : Sg) (u : Nat → Int64) (τ : Sg) (hI : INV σ) (hA : XA lo ad σ) (v place : Int32) : vx_Met la yX6_plannedAt wsX6_plannedAt ({ frames := 7, cells := 2, slots := 12, locals := 122 } : Room) (va_Pc [.ref (ad 0 0), .int v, .int place] (fun U => XR g ad σ u τ U.heap ∧ EV g lo U)) (QX (exOf 1 5 0 (t_plannedAt σ v place)) (.returned (some (.int (f_lotAt σ v place))))) (XX (exOf 1 5 0 (t_plannedAt σ v place))) 2 12 (fun _ => False) := by
  refine vx_ofW (cc := cX6_plannedAt) (maxL := 9) (ret := (some .int)) (by decide) rfl ?_
  intro p e s m args below meth c s₁ B hml ht hv
  obtain ⟨rfl, hX, hE⟩ := hv
  have hK := hE.1
  have hx := B.exec
  have hb := B.bytes
  have hr := B.returns
  have hts := atoms_spec (ws := wsX6_plannedAt) B.pre
  have hown : s.vm.findClass RX6 = some m.cls := findClass_of_methodNamed B.named
  have hlocks := B.notSynchronized
  have hinX0 : ∀ w ∈ wsX00, w ∈ wsX6_plannedAt := by decide +kernel
  have hinX6 : ∀ w ∈ wsX60, w ∈ wsX6_plannedAt := by decide +kernel
  have lk164 := hts (.fieldLink RX6 164 "DyehouseLedger$Lot" "plannedFor" "LDyehouseLedger$Vat;") (by decide +kernel)
  have lk197 := hts (.fieldLink RX6 197 "DyehouseLedger$Lot" "number" "I") (by decide +kernel)
  have lk23 := hts (.fieldLink RX6 23 "DyehouseLedger" "allLots" "[LDyehouseLedger$Lot;") (by decide +kernel)
  have ti5 := hts (.initialized "java/lang/IndexOutOfBoundsException") (by decide +kernel)
  have tk5 := hts (.classLink RX6 198 "java/lang/IndexOutOfBoundsException") (by decide +kernel)
  have tw5 : ∀ w ∈ (vx_at0 RX6 200 (en 5) exN).filter goodWord, w.before _ s = true := fun w h => hts w (tw_inX6_plannedAt_5 w h)
  have hl := lv_entry ([.ref (ad 0 0), .int v, .int place]) (n := 9) (Nat.le_of_ble_eq_true rfl)
  rw [lg_entry_eq]
  generalize (lg_sl ([.ref (ad 0 0), .int v, .int place]) ++ List.replicate (9 - (lg_sl ([.ref (ad 0 0), .int v, .int place])).length) Slot.unset).toArray = ls at hl ⊢
  have hl : lv_has ls 9 [(0, .ref (ad 0 0)), (1, .int v), (2, .int place)] := hl
  have hbL := hI.l.1
  have hbO := hI.o.1
  have hbV := hI.v.1
  by_cases kv9 : okV σ v
  · obtain ⟨w, hw, rfl⟩ := vp_in_of ((okV_in hI v).mp kv9) (Nat.lt_of_le_of_lt hI.v.1 (by decide))
    have hbw : nV σ ≤ _ := hI.v.1
    have etw : ti (nI w) = w := ti_nI (by omega)
    refine lv_aload_n hx hb dX6_plannedAt_0 rfl (lv_at hl 0 rfl) ?_
    refine lv_iload_n hx hb dX6_plannedAt_1 rfl (lv_at hl 1 rfl) ?_
    refine xc_v (n := 1) (As := [.int (nI w)]) (rest := []) (v := [.ref (ad 18 w)]) ⟨hx, hb, hml, hown, hts⟩ hE hX ht hlocks (fun q => absurd (show eV σ (nI w) = 0 from if_pos kv9) q) (qX6_vatNumbered la hst g lo ad σ u τ hI (nI w)) gX6_plannedAt_X6_vatNumbered rfl rfl rfl (by decide +kernel) ⟨Nat.le_of_ble_eq_true rfl, Nat.le_of_ble_eq_true rfl⟩ rfl hl.1 rfl (Nat.le_of_ble_eq_true rfl) dX6_plannedAt_2 ⟨Nat.le_of_ble_eq_true rfl, Nat.le_of_ble_eq_true rfl⟩ ⟨Nat.le_of_ble_eq_true rfl, Nat.le_of_ble_eq_true rfl⟩ (fun _ => congrArg (fun z => [Value.ref (ad 18 z)]) (ti_nI (by omega))) (fun h_1 => ?_)
    refine lv_astore_n (lv' := [(3, .ref (ad 18 w)), (0, .ref (ad 0 0)), (1, .int (nI w)), (2, .int place)]) hx hb dX6_plannedAt_5 rfl hl (by decide) rfl (fun ls hl => ?_)
    have et1 : ¬ (-1 : Int32) = nI w := fun q => nI_ne1 (i := w) (by omega) q.symm
    refine lv_iconst (v := 0) hx hb dX6_plannedAt_6 (by decide) ?_
    refine lv_istore (lv' := [(4, .int 0), (3, .ref (ad 18 w)), (0, .ref (ad 0 0)), (1, .int (nI w)), (2, .int place)]) hx hb dX6_plannedAt_7 hl (by decide) rfl (fun ls hl => ?_)
    refine lv_aload_n hx hb dX6_plannedAt_9 rfl (lv_at hl 2 rfl) ?_
    refine x_get (K := 0) (i := 0) (v := .ref (ad 3 0)) hx hb hts hinX6 hown hK hX (show 0 < 1 from Nat.zero_lt_one) 2 rfl rfl (by decide) rfl lk23 rfl dX6_plannedAt_10 ?_
    refine lv_astore (lv' := [(5, .ref (ad 3 0)), (4, .int 0), (3, .ref (ad 18 w)), (0, .ref (ad 0 0)), (1, .int (nI w)), (2, .int place)]) hx hb dX6_plannedAt_13 hl (by decide) rfl (fun ls hl => ?_)
    refine lv_aload hx hb dX6_plannedAt_15 (lv_at hl 0 rfl) ?_
    refine x_alen (K := 3) (t0 := 3) (v := 24) hx hb hK hX (show 0 < 1 from Nat.zero_lt_one) rfl rfl rfl dX6_plannedAt_17 ?_
    refine lv_istore (lv' := [(6, .int 24), (5, .ref (ad 3 0)), (4, .int 0), (3, .ref (ad 18 w)), (0, .ref (ad 0 0)), (1, .int (nI w)), (2, .int place)]) hx hb dX6_plannedAt_18 hl (by decide) rfl (fun ls hl => ?_)
    refine lv_iconst (v := 0) hx hb dX6_plannedAt_20 (by decide) ?_
    refine lv_istore (lv' := [(7, .int 0), (6, .int 24), (5, .ref (ad 3 0)), (4, .int 0), (3, .ref (ad 18 w)), (0, .ref (ad 0 0)), (1, .int (nI w)), (2, .int place)]) hx hb dX6_plannedAt_21 hl (by decide) rfl (fun ls hl => ?_)
    have lp23 : ∀ (n9 : Nat) (j : Nat), (j ≤ 24) → (f_lotAt σ (nI w) place = lotAtF σ (nI w) place (nL σ - j) j) → 24 - j < n9 → ∀ (ls : Array Slot), lv_has ls 9 [(0, .ref (ad 0 0)), (1, .int (nI w)), (2, .int place), (3, .ref (ad 18 w)), (4, .int (cutN σ (fun y => if σ 20 y = nI w then 1 else 0) j)), (5, .ref (ad 3 0)), (6, .int 24), (7, .int (nI j))] → W p la e ({ frames := 7, cells := 2, slots := 12, locals := 122 } : Room) s m ([.ref (ad 0 0), .int (nI w), .int place] : List Value).toArray below meth c s.heap [] 1 6 (vx_MQ below (QX (exOf 1 5 0 (t_plannedAt σ (nI w) place)) (.returned (some (.int (f_lotAt σ (nI w) place))))) (XX (exOf 1 5 0 (t_plannedAt σ (nI w) place))) ([.ref (ad 0 0), .int (nI w), .int place] : List Value).toArray s 2 12 (fun _ => False)) (F0 m 23 ls []) := by
      intro n9_23
      induction n9_23 with
      | zero => intro j _ _ h9 ; exact absurd h9 (Nat.not_lt_zero _)
      | succ n9_23 ih_23 =>
        intro j hj hT h9 ls hl
        refine lv_iload hx hb dX6_plannedAt_23 (lv_at hl 7 rfl) ?_
        refine lv_iload hx hb dX6_plannedAt_25 (lv_at hl 6 rfl) ?_
        refine lv_icmp_ge (tgt := 72) hx hb dX6_plannedAt_27 (by decide) (fun c_2 => ?_) (fun c_2 => ?_)
        · replace c_2 := Int32.not_lt.mpr c_2
          obtain rfl : j = 24 := ge24 hj c_2
          have hV : f_lotAt σ (nI w) place = -1 := by rw [hT, show nL σ - 24 = 0 by omega]; rfl
          exact x_throw (k9 := 5) (ic := 200) hx hb hst hown hE ht hlocks (hl.1.trans hml.symm) (fun _ _ _ => trivial) (by decide) tk5 ti5 tw5 bad5 good5 (by decide) (show (exOf 1 5 0 (t_plannedAt σ (nI w) place)) = 5 from by rw [show (t_plannedAt σ (nI w) place) = 2 from (by simp only [tD, tL, tV, tO, tW, tLV, tN, t_needs, t_plannedAt, t_shadeOf, t_dist, t_near, t_cell, t_byLight, t_dues, t_share, t_mean, okW, etw]; (repeat' split) <;> first | rfl | contradiction | (exfalso; simp_all [-Int32.not_lt, -Int32.not_le]; done))]; rfl) dX6_plannedAt_72 dX6_plannedAt_75 dX6_plannedAt_76 dX6_plannedAt_79 (Nat.le_of_ble_eq_true rfl) (Nat.le_of_ble_eq_true rfl) (Nat.le_of_ble_eq_true rfl) (Nat.le_of_ble_eq_true rfl) (Nat.le_of_ble_eq_true rfl) (Nat.le_of_ble_eq_true rfl)
        · replace c_2 := Int32.not_le.mp c_2
          have hj1 : j < 24 := lt24 hj c_2
          refine lv_aload hx hb dX6_plannedAt_30 (lv_at hl 5 rfl) ?_
          refine lv_iload hx hb dX6_plannedAt_32 (lv_at hl 7 rfl) ?_
          by_cases z_3 : j < nL σ
          · refine x_aald (K := 3) (t0 := 3) (C := RX0) (n := 24) (f := refA ad 16 (nL σ)) (j := (nI j)) (v := .ref (ad 16 j)) hx hb hK hX (show 0 < 1 from Nat.zero_lt_one) rfl rfl (vin_nI hj1 (by decide)) (by rw [(ti_nI (by omega))]; exact refA_in z_3) dX6_plannedAt_34 ?_
            refine lv_astore (lv' := [(8, .ref (ad 16 j)), (0, .ref (ad 0 0)), (1, .int (nI w)), (2, .int place), (3, .ref (ad 18 w)), (4, .int (cutN σ (fun y => if σ 20 y = nI w then 1 else 0) j)), (5, .ref (ad 3 0)), (6, .int 24), (7, .int (nI j))]) hx hb dX6_plannedAt_35 hl (by decide) rfl (fun ls hl => ?_)
            refine lv_aload hx hb dX6_plannedAt_37 (lv_at hl 0 rfl) ?_
            refine lv_ifnull hx hb dX6_plannedAt_39 ?_
            refine lv_aload hx hb dX6_plannedAt_42 (lv_at hl 0 rfl) ?_
            by_cases z_4 : σ 20 j = -1
            · refine x_get (K := 16) (i := j) (v := .null) hx hb hts hinX0 hown hK hX z_3 8 rfl rfl (by decide) rfl lk164 (congrArg some (opt_no z_4)) dX6_plannedAt_44 ?_
              refine lv_aload_n hx hb dX6_plannedAt_47 rfl (lv_at hl 4 rfl) ?_
              refine x_acmp_neN (tgt := 66) hx hb dX6_plannedAt_48 (by decide) ?_
              refine lv_iinc (v := ((nI j) + 1)) (lv' := [(7, .int ((nI j) + 1)), (8, .ref (ad 16 j)), (0, .ref (ad 0 0)), (1, .int (nI w)), (2, .int place), (3, .ref (ad 18 w)), (4, .int (cutN σ (fun y => if σ 20 y = nI w then 1 else 0) j)), (5, .ref (ad 3 0)), (6, .int 24)]) hx hb dX6_plannedAt_66 hl (k := 8) rfl rfl (by decide) rfl (fun ls hl => ?_)
              refine lv_goto (tgt := 23) hx hb dX6_plannedAt_69 (by decide) ?_
              have e_5 : ((cutN σ (fun y => if σ 20 y = nI w then 1 else 0) (j + 1)) : Int32) = (cutN σ (fun y => if σ 20 y = nI w then 1 else 0) j) := (by first | rfl | (simp only [cutN_s]; (repeat' split) <;> first | rfl | contradiction | exact Int32.add_zero _ | exact Int64.add_zero _ | (exfalso; simp_all [-Int32.not_lt, -Int32.not_le]; done)) | (simp only [cutN_s]; simp_all [-Int32.not_lt, -Int32.not_le]; done))
              have e_6 : ((nI (j + 1)) : Int32) = ((nI j) + 1) := (nI_1 j).symm
              have hl2 : lv_has ls 9 [(0, .ref (ad 0 0)), (1, .int (nI w)), (2, .int place), (3, .ref (ad 18 w)), (4, .int (cutN σ (fun y => if σ 20 y = nI w then 1 else 0) (j + 1))), (5, .ref (ad 3 0)), (6, .int 24), (7, .int (nI (j + 1)))] := by
                rw [e_5, e_6]
                exact lv_sub hl [2, 3, 4, 5, 6, 7, 8, 0] rfl
              exact ih_23 (j + 1) (by omega) (hT.trans (by first | exact lotAtX_o (by assumption) | exact lotAtX_m (by omega) (by assumption) (by assumption) | exact lotAtF_c (by assumption) (by assumption) | exact lotAtX_d (by assumption) (by assumption) (by assumption))) (by omega) ls hl2
            · refine x_get (K := 16) (i := j) (v := .ref (ad 18 (ti (σ 20 j)))) hx hb hts hinX0 hown hK hX z_3 8 rfl rfl (by decide) rfl lk164 (congrArg some (opt_in z_4)) dX6_plannedAt_44 ?_
              refine lv_aload_n hx hb dX6_plannedAt_47 rfl (lv_at hl 4 rfl) ?_
              refine x_acmp_ne (tgt := 66) hx hb dX6_plannedAt_48 (by decide) (fun c_7 => ?_) (fun c_7 => ?_)
              · replace c_7 := fun q => c_7 ((xa_iff hA (K := 18) (vin_lt (hI.2.2.2.2.2.2.1 _ z_3 z_4).1) hw).mpr q)
                replace c_7 : ¬ (σ 20 j) = nI w := fun q => c_7 ((ti_eq (vin_mono (hI.2.2.2.2.2.2.1 _ z_3 z_4).1 hI.v.1) (by decide)).mpr q)
                refine lv_iinc (v := ((nI j) + 1)) (lv' := [(7, .int ((nI j) + 1)), (8, .ref (ad 16 j)), (0, .ref (ad 0 0)), (1, .int (nI w)), (2, .int place), (3, .ref (ad 18 w)), (4, .int (cutN σ (fun y => if σ 20 y = nI w then 1 else 0) j)), (5, .ref (ad 3 0)), (6, .int 24)]) hx hb dX6_plannedAt_66 hl (k := 8) rfl rfl (by decide) rfl (fun ls hl => ?_)
                refine lv_goto (tgt := 23) hx hb dX6_plannedAt_69 (by decide) ?_
                have e_8 : ((cutN σ (fun y => if σ 20 y = nI w then 1 else 0) (j + 1)) : Int32) = (cutN σ (fun y => if σ 20 y = nI w then 1 else 0) j) := (by first | rfl | (simp only [cutN_s]; (repeat' split) <;> first | rfl | contradiction | exact Int32.add_zero _ | exact Int64.add_zero _ | (exfalso; simp_all [-Int32.not_lt, -Int32.not_le]; done)) | (simp only [cutN_s]; simp_all [-Int32.not_lt, -Int32.not_le]; done))
                have e_9 : ((nI (j + 1)) : Int32) = ((nI j) + 1) := (nI_1 j).symm
                have hl2 : lv_has ls 9 [(0, .ref (ad 0 0)), (1, .int (nI w)), (2, .int place), (3, .ref (ad 18 w)), (4, .int (cutN σ (fun y => if σ 20 y = nI w then 1 else 0) (j + 1))), (5, .ref (ad 3 0)), (6, .int 24), (7, .int (nI (j + 1)))] := by
                  rw [e_8, e_9]
                  exact lv_sub hl [2, 3, 4, 5, 6, 7, 8, 0] rfl
                exact ih_23 (j + 1) (by omega) (hT.trans (by first | exact lotAtX_o (by assumption) | exact lotAtX_m (by omega) (by assumption) (by assumption) | exact lotAtF_c (by assumption) (by assumption) | exact lotAtX_d (by assumption) (by assumption) (by assumption))) (by omega) ls hl2
              · replace c_7 := (xa_iff hA (K := 18) (vin_lt (hI.2.2.2.2.2.2.1 _ z_3 z_4).1) hw).mp c_7
                replace c_7 := (ti_eq (vin_mono (hI.2.2.2.2.2.2.1 _ z_3 z_4).1 hI.v.1) (by decide)).mp c_7
                refine lv_iload hx hb dX6_plannedAt_51 (lv_at hl 5 rfl) ?_
                refine lv_iload_n hx hb dX6_plannedAt_53 rfl (lv_at hl 3 rfl) ?_
                refine lv_icmp_ne (tgt := 63) hx hb dX6_plannedAt_54 (by decide) (fun c_10 => ?_) (fun c_10 => ?_)
                · refine lv_iinc (v := ((cutN σ (fun y => if σ 20 y = nI w then 1 else 0) j) + 1)) (lv' := [(4, .int ((cutN σ (fun y => if σ 20 y = nI w then 1 else 0) j) + 1)), (8, .ref (ad 16 j)), (0, .ref (ad 0 0)), (1, .int (nI w)), (2, .int place), (3, .ref (ad 18 w)), (5, .ref (ad 3 0)), (6, .int 24), (7, .int (nI j))]) hx hb dX6_plannedAt_63 hl (k := 5) rfl rfl (by decide) rfl (fun ls hl => ?_)
                  refine lv_iinc (v := ((nI j) + 1)) (lv' := [(7, .int ((nI j) + 1)), (4, .int ((cutN σ (fun y => if σ 20 y = nI w then 1 else 0) j) + 1)), (8, .ref (ad 16 j)), (0, .ref (ad 0 0)), (1, .int (nI w)), (2, .int place), (3, .ref (ad 18 w)), (5, .ref (ad 3 0)), (6, .int 24)]) hx hb dX6_plannedAt_66 hl (k := 8) rfl rfl (by decide) rfl (fun ls hl => ?_)
                  refine lv_goto (tgt := 23) hx hb dX6_plannedAt_69 (by decide) ?_
                  have e_11 : ((cutN σ (fun y => if σ 20 y = nI w then 1 else 0) (j + 1)) : Int32) = ((cutN σ (fun y => if σ 20 y = nI w then 1 else 0) j) + 1) := (by first | rfl | (simp only [cutN_s]; (repeat' split) <;> first | rfl | contradiction | exact Int32.add_zero _ | exact Int64.add_zero _ | (exfalso; simp_all [-Int32.not_lt, -Int32.not_le]; done)) | (simp only [cutN_s]; simp_all [-Int32.not_lt, -Int32.not_le]; done))
                  have e_12 : ((nI (j + 1)) : Int32) = ((nI j) + 1) := (nI_1 j).symm
                  have hl2 : lv_has ls 9 [(0, .ref (ad 0 0)), (1, .int (nI w)), (2, .int place), (3, .ref (ad 18 w)), (4, .int (cutN σ (fun y => if σ 20 y = nI w then 1 else 0) (j + 1))), (5, .ref (ad 3 0)), (6, .int 24), (7, .int (nI (j + 1)))] := by
                    rw [e_11, e_12]
                    exact lv_sub hl [3, 4, 5, 6, 1, 7, 8, 0] rfl
                  exact ih_23 (j + 1) (by omega) (hT.trans (by first | exact lotAtX_o (by assumption) | exact lotAtX_m (by omega) (by assumption) (by assumption) | exact lotAtF_c (by assumption) (by assumption) | exact lotAtX_d (by assumption) (by assumption) (by assumption))) (by omega) ls hl2
                · have hV : f_lotAt σ (nI w) place = nI j := hT.trans (lotAtX_e (by assumption) (by assumption) (by assumption))
                  have hN := nI_ne1 (i := j) (by omega)
                  refine lv_aload hx hb dX6_plannedAt_57 (lv_at hl 0 rfl) ?_
                  refine x_get (K := 16) (i := j) (v := .int (nI j)) hx hb hts hinX0 hown hK hX z_3 0 rfl rfl (by decide) rfl lk197 rfl dX6_plannedAt_59 ?_
                  refine vx_ret ?_
                  refine W.widen (k := 2) (n := 12) (Nat.le_of_ble_eq_true rfl) (Nat.le_of_ble_eq_true rfl) ?_
                  exact W.iret (v := (nI j)) hx hb hr (fun t ht9 hW => ⟨(show (exOf 1 5 0 (t_plannedAt σ (nI w) place)) = 0 from by rw [show (t_plannedAt σ (nI w) place) = 0 from (by simp only [tD, tL, tV, tO, tW, tLV, tN, t_needs, t_plannedAt, t_shadeOf, t_dist, t_near, t_cell, t_byLight, t_dues, t_share, t_mean, okW, etw]; (repeat' split) <;> first | rfl | contradiction | (exfalso; simp_all [-Int32.not_lt, -Int32.not_le]; done))]; rfl), congrArg (fun z => Outcome.returned (some (Value.int z))) hV.symm, ht9⟩) (fun _ h => nomatch h) dX6_plannedAt_62
          · refine x_aald (K := 3) (t0 := 3) (C := RX0) (n := 24) (f := refA ad 16 (nL σ)) (j := (nI j)) (v := .null) hx hb hK hX (show 0 < 1 from Nat.zero_lt_one) rfl rfl (vin_nI hj1 (by decide)) (by rw [(ti_nI (by omega))]; exact refA_no z_3) dX6_plannedAt_34 ?_
            refine lv_astoreN (lv' := [(8, .null), (0, .ref (ad 0 0)), (1, .int (nI w)), (2, .int place), (3, .ref (ad 18 w)), (4, .int (cutN σ (fun y => if σ 20 y = nI w then 1 else 0) j)), (5, .ref (ad 3 0)), (6, .int 24), (7, .int (nI j))]) hx hb dX6_plannedAt_35 hl (by decide) rfl (fun ls hl => ?_)
            refine lv_aloadN hx hb dX6_plannedAt_37 (lv_at hl 0 rfl) ?_
            refine lv_ifnullN (tgt := 66) hx hb dX6_plannedAt_39 (by decide) ?_
            refine lv_iinc (v := ((nI j) + 1)) (lv' := [(7, .int ((nI j) + 1)), (8, .null), (0, .ref (ad 0 0)), (1, .int (nI w)), (2, .int place), (3, .ref (ad 18 w)), (4, .int (cutN σ (fun y => if σ 20 y = nI w then 1 else 0) j)), (5, .ref (ad 3 0)), (6, .int 24)]) hx hb dX6_plannedAt_66 hl (k := 8) rfl rfl (by decide) rfl (fun ls hl => ?_)
            refine lv_goto (tgt := 23) hx hb dX6_plannedAt_69 (by decide) ?_
            have e_13 : ((cutN σ (fun y => if σ 20 y = nI w then 1 else 0) (j + 1)) : Int32) = (cutN σ (fun y => if σ 20 y = nI w then 1 else 0) j) := (by first | rfl | (simp only [cutN_s]; (repeat' split) <;> first | rfl | contradiction | exact Int32.add_zero _ | exact Int64.add_zero _ | (exfalso; simp_all [-Int32.not_lt, -Int32.not_le]; done)) | (simp only [cutN_s]; simp_all [-Int32.not_lt, -Int32.not_le]; done))
            have e_14 : ((nI (j + 1)) : Int32) = ((nI j) + 1) := (nI_1 j).symm
            have hl2 : lv_has ls 9 [(0, .ref (ad 0 0)), (1, .int (nI w)), (2, .int place), (3, .ref (ad 18 w)), (4, .int (cutN σ (fun y => if σ 20 y = nI w then 1 else 0) (j + 1))), (5, .ref (ad 3 0)), (6, .int 24), (7, .int (nI (j + 1)))] := by
              rw [e_13, e_14]
              exact lv_sub hl [2, 3, 4, 5, 6, 7, 8, 0] rfl
            exact ih_23 (j + 1) (by omega) (hT.trans (by first | exact lotAtX_o (by assumption) | exact lotAtX_m (by omega) (by assumption) (by assumption) | exact lotAtF_c (by assumption) (by assumption) | exact lotAtX_d (by assumption) (by assumption) (by assumption))) (by omega) ls hl2
    have e_15 : ((cutN σ (fun y => if σ 20 y = nI w then 1 else 0) (0)) : Int32) = 0 := (by first | rfl | (simp only [cutN_s]; (repeat' split) <;> first | rfl | contradiction | exact Int32.add_zero _ | exact Int64.add_zero _ | (exfalso; simp_all [-Int32.not_lt, -Int32.not_le]; done)) | (simp only [cutN_s]; simp_all [-Int32.not_lt, -Int32.not_le]; done))
    have e_16 : ((nI (0)) : Int32) = 0 := (by first | rfl | (simp only [cutN_s]; (repeat' split) <;> first | rfl | contradiction | exact Int32.add_zero _ | exact Int64.add_zero _ | (exfalso; simp_all [-Int32.not_lt, -Int32.not_le]; done)) | (simp only [cutN_s]; simp_all [-Int32.not_lt, -Int32.not_le]; done))
    have hl2 : lv_has ls 9 [(0, .ref (ad 0 0)), (1, .int (nI w)), (2, .int place), (3, .ref (ad 18 w)), (4, .int (cutN σ (fun y => if σ 20 y = nI w then 1 else 0) (0))), (5, .ref (ad 3 0)), (6, .int 24), (7, .int (nI (0)))] := by
      rw [e_15, e_16]
      exact lv_sub hl [5, 6, 7, 4, 3, 2, 1, 0] rfl
    exact lp23 (24 - 0 + 1) (0) (Nat.zero_le _) rfl (Nat.lt_succ_self _) ls hl2
  · refine lv_aload_n hx hb dX6_plannedAt_0 rfl (lv_at hl 0 rfl) ?_
    refine lv_iload_n hx hb dX6_plannedAt_1 rfl (lv_at hl 1 rfl) ?_
    refine xc_v (n := 1) (As := [.int v]) (rest := []) (v := [.ref (ad 18 (ti v))]) ⟨hx, hb, hml, hown, hts⟩ hE hX ht hlocks (fun _ => ((show (exOf 1 5 0 (t_plannedAt σ v place)) = 1 from by rw [show (t_plannedAt σ v place) = 1 from (by simp only [tD, tL, tV, tO, tW, tLV, tN, t_needs, t_plannedAt, t_shadeOf, t_dist, t_near, t_cell, t_byLight, t_dues, t_share, t_mean, okW]; (repeat' split) <;> first | rfl | contradiction | (exfalso; simp_all [-Int32.not_lt, -Int32.not_le]; done))]; rfl)).trans (show eV σ v = 1 from if_neg kv9).symm) (qX6_vatNumbered la hst g lo ad σ u τ hI v) gX6_plannedAt_X6_vatNumbered rfl rfl rfl (by decide +kernel) ⟨Nat.le_of_ble_eq_true rfl, Nat.le_of_ble_eq_true rfl⟩ rfl hl.1 rfl (Nat.le_of_ble_eq_true rfl) dX6_plannedAt_2 ⟨Nat.le_of_ble_eq_true rfl, Nat.le_of_ble_eq_true rfl⟩ ⟨Nat.le_of_ble_eq_true rfl, Nat.le_of_ble_eq_true rfl⟩ (fun _ => rfl) (fun h_18 => ?_)
    exact absurd h_18 (by rw [show eV σ v = 1 from if_neg kv9]; decide)
theorem tw_inX6_byLight_5 : ∀ w ∈ (vx_at0 RX6 200 (en 5) exN).filter goodWord, w ∈ wsX6_byLight := by decide +kernel
set_option maxHeartbeats 4000000 in
set_option maxRecDepth 100000 in
theorem qX6_byLight (la : Launch) (hst : la.stackTraces = false) (g : EG) (lo : Nat) (ad : Nat → Nat → Nat) (σ : Sg) (u : Nat → Int64) (τ : Sg) (hI : INV σ) (hA : XA lo ad σ) (place : Int32) : vx_Met la yX6_byLight wsX6_byLight ({ frames := 6, cells := 1, slots := 6, locals := 100 } : Room) (va_Pc [.ref (ad 0 0), .int place] (fun U => XR g ad σ u τ U.heap ∧ EV g lo U)) (QX (exOf 5 0 0 (t_byLight σ place)) (.returned (some (.int (f_byLight σ place))))) (XX (exOf 5 0 0 (t_byLight σ place))) 1 6 (fun _ => False) := by
  refine vx_ofW (cc := cX6_byLight) (maxL := 6) (ret := (some .int)) (by decide) rfl ?_
  intro p e s m args below meth c s₁ B hml ht hv
  obtain ⟨rfl, hX, hE⟩ := hv
  have hK := hE.1
  have hx := B.exec
  have hb := B.bytes
  have hr := B.returns
  have hts := atoms_spec (ws := wsX6_byLight) B.pre
  have hown : s.vm.findClass RX6 = some m.cls := findClass_of_methodNamed B.named
  have hlocks := B.notSynchronized
  have hinX0 : ∀ w ∈ wsX00, w ∈ wsX6_byLight := by decide +kernel
  have hinX6 : ∀ w ∈ wsX60, w ∈ wsX6_byLight := by decide +kernel
  have lk147 := hts (.fieldLink RX6 147 "DyehouseLedger$Lot" "state" "C") (by decide +kernel)
  have lk197 := hts (.fieldLink RX6 197 "DyehouseLedger$Lot" "number" "I") (by decide +kernel)
  have lk23 := hts (.fieldLink RX6 23 "DyehouseLedger" "allLots" "[LDyehouseLedger$Lot;") (by decide +kernel)
  have ti5 := hts (.initialized "java/lang/IndexOutOfBoundsException") (by decide +kernel)
  have tk5 := hts (.classLink RX6 198 "java/lang/IndexOutOfBoundsException") (by decide +kernel)
  have tw5 : ∀ w ∈ (vx_at0 RX6 200 (en 5) exN).filter goodWord, w.before _ s = true := fun w h => hts w (tw_inX6_byLight_5 w h)
  have hl := lv_entry ([.ref (ad 0 0), .int place]) (n := 6) (Nat.le_of_ble_eq_true rfl)
  rw [lg_entry_eq]
  generalize (lg_sl ([.ref (ad 0 0), .int place]) ++ List.replicate (6 - (lg_sl ([.ref (ad 0 0), .int place])).length) Slot.unset).toArray = ls at hl ⊢
  have hl : lv_has ls 6 [(0, .ref (ad 0 0)), (1, .int place)] := hl
  have hbL := hI.l.1
  have hbO := hI.o.1
  have hbV := hI.v.1
  refine lv_aload_n hx hb dX6_byLight_0 rfl (lv_at hl 0 rfl) ?_
  refine x_get (K := 0) (i := 0) (v := .ref (ad 3 0)) hx hb hts hinX6 hown hK hX (show 0 < 1 from Nat.zero_lt_one) 2 rfl rfl (by decide) rfl lk23 rfl dX6_byLight_1 ?_
  refine lv_astore_n (lv' := [(2, .ref (ad 3 0)), (0, .ref (ad 0 0)), (1, .int place)]) hx hb dX6_byLight_4 rfl hl (by decide) rfl (fun ls hl => ?_)
  refine lv_aload_n hx hb dX6_byLight_5 rfl (lv_at hl 0 rfl) ?_
  refine x_alen (K := 3) (t0 := 3) (v := 24) hx hb hK hX (show 0 < 1 from Nat.zero_lt_one) rfl rfl rfl dX6_byLight_6 ?_
  refine lv_istore_n (lv' := [(3, .int 24), (2, .ref (ad 3 0)), (0, .ref (ad 0 0)), (1, .int place)]) hx hb dX6_byLight_7 rfl hl (by decide) rfl (fun ls hl => ?_)
  refine lv_iconst (v := 0) hx hb dX6_byLight_8 (by decide) ?_
  refine lv_istore (lv' := [(4, .int 0), (3, .int 24), (2, .ref (ad 3 0)), (0, .ref (ad 0 0)), (1, .int place)]) hx hb dX6_byLight_9 hl (by decide) rfl (fun ls hl => ?_)
  have lp11 : ∀ (n9 : Nat) (j : Nat), (j ≤ 24) → (f_byLight σ place = byF σ place (nL σ - j) j) → 24 - j < n9 → ∀ (ls : Array Slot), lv_has ls 6 [(0, .ref (ad 0 0)), (1, .int place), (2, .ref (ad 3 0)), (3, .int 24), (4, .int (nI j))] → W p la e ({ frames := 6, cells := 1, slots := 6, locals := 100 } : Room) s m ([.ref (ad 0 0), .int place] : List Value).toArray below meth c s.heap [] 0 0 (vx_MQ below (QX (exOf 5 0 0 (t_byLight σ place)) (.returned (some (.int (f_byLight σ place))))) (XX (exOf 5 0 0 (t_byLight σ place))) ([.ref (ad 0 0), .int place] : List Value).toArray s 1 6 (fun _ => False)) (F0 m 11 ls []) := by
    intro n9_11
    induction n9_11 with
    | zero => intro j _ _ h9 ; exact absurd h9 (Nat.not_lt_zero _)
    | succ n9_11 ih_11 =>
      intro j hj hT h9 ls hl
      refine lv_iload hx hb dX6_byLight_11 (lv_at hl 4 rfl) ?_
      refine lv_iload_n hx hb dX6_byLight_13 rfl (lv_at hl 3 rfl) ?_
      refine lv_icmp_ge (tgt := 60) hx hb dX6_byLight_14 (by decide) (fun c_1 => ?_) (fun c_1 => ?_)
      · replace c_1 := Int32.not_lt.mpr c_1
        obtain rfl : j = 24 := ge24 hj c_1
        have hV : f_byLight σ place = -1 := by rw [hT, show nL σ - 24 = 0 by omega]; rfl
        exact x_throw (k9 := 5) (ic := 200) hx hb hst hown hE ht hlocks (hl.1.trans hml.symm) (fun _ _ _ => trivial) (by decide) tk5 ti5 tw5 bad5 good5 (by decide) (show (exOf 5 0 0 (t_byLight σ place)) = 5 from by rw [show (t_byLight σ place) = 1 from (by simp only [tD, tL, tV, tO, tW, tLV, tN, t_needs, t_plannedAt, t_shadeOf, t_dist, t_near, t_cell, t_byLight, t_dues, t_share, t_mean, okW]; (repeat' split) <;> first | rfl | contradiction | (exfalso; simp_all [-Int32.not_lt, -Int32.not_le]; done))]; rfl) dX6_byLight_60 dX6_byLight_63 dX6_byLight_64 dX6_byLight_67 (Nat.le_of_ble_eq_true rfl) (Nat.le_of_ble_eq_true rfl) (Nat.le_of_ble_eq_true rfl) (Nat.le_of_ble_eq_true rfl) (Nat.le_of_ble_eq_true rfl) (Nat.le_of_ble_eq_true rfl)
      · replace c_1 := Int32.not_le.mp c_1
        have hj1 : j < 24 := lt24 hj c_1
        refine lv_aload_n hx hb dX6_byLight_17 rfl (lv_at hl 2 rfl) ?_
        refine lv_iload hx hb dX6_byLight_18 (lv_at hl 4 rfl) ?_
        by_cases z_2 : j < nL σ
        · refine x_aald (K := 3) (t0 := 3) (C := RX0) (n := 24) (f := refA ad 16 (nL σ)) (j := (nI j)) (v := .ref (ad 16 j)) hx hb hK hX (show 0 < 1 from Nat.zero_lt_one) rfl rfl (vin_nI hj1 (by decide)) (by rw [(ti_nI (by omega))]; exact refA_in z_2) dX6_byLight_20 ?_
          refine lv_astore (lv' := [(5, .ref (ad 16 j)), (0, .ref (ad 0 0)), (1, .int place), (2, .ref (ad 3 0)), (3, .int 24), (4, .int (nI j))]) hx hb dX6_byLight_21 hl (by decide) rfl (fun ls hl => ?_)
          refine lv_aload hx hb dX6_byLight_23 (lv_at hl 0 rfl) ?_
          refine lv_ifnull hx hb dX6_byLight_25 ?_
          refine lv_aload hx hb dX6_byLight_28 (lv_at hl 0 rfl) ?_
          refine x_get (K := 16) (i := j) (v := .int (σ 21 j)) hx hb hts hinX0 hown hK hX z_2 4 rfl rfl (by decide) rfl lk147 rfl dX6_byLight_30 ?_
          refine lv_bipush (v := 119) hx hb dX6_byLight_33 (by decide) ?_
          refine lv_icmp_eq (tgt := 54) hx hb dX6_byLight_35 (by decide) (fun c_3 => ?_) (fun c_3 => ?_)
          · refine lv_iinc (v := ((nI j) + 1)) (lv' := [(4, .int ((nI j) + 1)), (5, .ref (ad 16 j)), (0, .ref (ad 0 0)), (1, .int place), (2, .ref (ad 3 0)), (3, .int 24)]) hx hb dX6_byLight_54 hl (k := 5) rfl rfl (by decide) rfl (fun ls hl => ?_)
            refine lv_goto (tgt := 11) hx hb dX6_byLight_57 (by decide) ?_
            have e_4 : ((nI (j + 1)) : Int32) = ((nI j) + 1) := (nI_1 j).symm
            have hl2 : lv_has ls 6 [(0, .ref (ad 0 0)), (1, .int place), (2, .ref (ad 3 0)), (3, .int 24), (4, .int (nI (j + 1)))] := by
              rw [e_4]
              exact lv_sub hl [2, 3, 4, 5, 0] rfl
            exact ih_11 (j + 1) (by omega) (hT.trans (by first | exact byX_o (by assumption) | exact byF_c (by assumption) (by rintro ⟨q1, q2⟩; first | exact q1 (by assumption) | exact absurd q2 (by assumption)))) (by omega) ls hl2
          · refine lv_aload_n hx hb dX6_byLight_38 rfl (lv_at hl 1 rfl) ?_
            refine lv_aload hx hb dX6_byLight_39 (lv_at hl 0 rfl) ?_
            refine xc_ro (n := 1) (K := 0) (i := 0) (As := [.ref (ad 16 j)]) (rest := []) (v := [.int (f_placeN σ j (nL σ))]) ⟨hx, hb, hml, hown, hts⟩ hK hX (show 0 < 1 from Nat.zero_lt_one) rfl rfl (qX6_placeByLight la g ad σ u τ hI j z_2) gX6_byLight_X6_placeByLight rfl rfl rfl (by decide +kernel) ⟨Nat.le_of_ble_eq_true rfl, Nat.le_of_ble_eq_true rfl⟩ rfl hl.1 rfl (Nat.le_of_ble_eq_true rfl) dX6_byLight_41 ⟨Nat.zero_le _, Nat.zero_le _⟩ rfl ?_
            refine lv_iload_n hx hb dX6_byLight_44 rfl (lv_at hl 2 rfl) ?_
            refine lv_icmp_ne (tgt := 54) hx hb dX6_byLight_45 (by decide) (fun c_5 => ?_) (fun c_5 => ?_)
            · refine lv_iinc (v := ((nI j) + 1)) (lv' := [(4, .int ((nI j) + 1)), (5, .ref (ad 16 j)), (0, .ref (ad 0 0)), (1, .int place), (2, .ref (ad 3 0)), (3, .int 24)]) hx hb dX6_byLight_54 hl (k := 5) rfl rfl (by decide) rfl (fun ls hl => ?_)
              refine lv_goto (tgt := 11) hx hb dX6_byLight_57 (by decide) ?_
              have e_6 : ((nI (j + 1)) : Int32) = ((nI j) + 1) := (nI_1 j).symm
              have hl2 : lv_has ls 6 [(0, .ref (ad 0 0)), (1, .int place), (2, .ref (ad 3 0)), (3, .int 24), (4, .int (nI (j + 1)))] := by
                rw [e_6]
                exact lv_sub hl [2, 3, 4, 5, 0] rfl
              exact ih_11 (j + 1) (by omega) (hT.trans (by first | exact byX_o (by assumption) | exact byF_c (by assumption) (by rintro ⟨q1, q2⟩; first | exact q1 (by assumption) | exact absurd q2 (by assumption)))) (by omega) ls hl2
            · have hV : f_byLight σ place = nI j := hT.trans (byF_e (by assumption) ⟨by assumption, by assumption⟩)
              have hN := nI_ne1 (i := j) (by omega)
              refine lv_aload hx hb dX6_byLight_48 (lv_at hl 0 rfl) ?_
              refine x_get (K := 16) (i := j) (v := .int (nI j)) hx hb hts hinX0 hown hK hX z_2 0 rfl rfl (by decide) rfl lk197 rfl dX6_byLight_50 ?_
              refine vx_ret ?_
              refine W.widen (k := 1) (n := 6) (Nat.le_of_ble_eq_true rfl) (Nat.le_of_ble_eq_true rfl) ?_
              exact W.iret (v := (nI j)) hx hb hr (fun t ht9 hW => ⟨(show (exOf 5 0 0 (t_byLight σ place)) = 0 from by rw [show (t_byLight σ place) = 0 from (by simp only [tD, tL, tV, tO, tW, tLV, tN, t_needs, t_plannedAt, t_shadeOf, t_dist, t_near, t_cell, t_byLight, t_dues, t_share, t_mean, okW]; (repeat' split) <;> first | rfl | contradiction | (exfalso; simp_all [-Int32.not_lt, -Int32.not_le]; done))]; rfl), congrArg (fun z => Outcome.returned (some (Value.int z))) hV.symm, ht9⟩) (fun _ h => nomatch h) dX6_byLight_53
        · refine x_aald (K := 3) (t0 := 3) (C := RX0) (n := 24) (f := refA ad 16 (nL σ)) (j := (nI j)) (v := .null) hx hb hK hX (show 0 < 1 from Nat.zero_lt_one) rfl rfl (vin_nI hj1 (by decide)) (by rw [(ti_nI (by omega))]; exact refA_no z_2) dX6_byLight_20 ?_
          refine lv_astoreN (lv' := [(5, .null), (0, .ref (ad 0 0)), (1, .int place), (2, .ref (ad 3 0)), (3, .int 24), (4, .int (nI j))]) hx hb dX6_byLight_21 hl (by decide) rfl (fun ls hl => ?_)
          refine lv_aloadN hx hb dX6_byLight_23 (lv_at hl 0 rfl) ?_
          refine lv_ifnullN (tgt := 54) hx hb dX6_byLight_25 (by decide) ?_
          refine lv_iinc (v := ((nI j) + 1)) (lv' := [(4, .int ((nI j) + 1)), (5, .null), (0, .ref (ad 0 0)), (1, .int place), (2, .ref (ad 3 0)), (3, .int 24)]) hx hb dX6_byLight_54 hl (k := 5) rfl rfl (by decide) rfl (fun ls hl => ?_)
          refine lv_goto (tgt := 11) hx hb dX6_byLight_57 (by decide) ?_
          have e_7 : ((nI (j + 1)) : Int32) = ((nI j) + 1) := (nI_1 j).symm
          have hl2 : lv_has ls 6 [(0, .ref (ad 0 0)), (1, .int place), (2, .ref (ad 3 0)), (3, .int 24), (4, .int (nI (j + 1)))] := by
            rw [e_7]
            exact lv_sub hl [2, 3, 4, 5, 0] rfl
          exact ih_11 (j + 1) (by omega) (hT.trans (by first | exact byX_o (by assumption) | exact byF_c (by assumption) (by rintro ⟨q1, q2⟩; first | exact q1 (by assumption) | exact absurd q2 (by assumption)))) (by omega) ls hl2
  have e_8 : ((nI (0)) : Int32) = 0 := (by first | rfl | ((repeat' split) <;> first | rfl | contradiction | exact Int32.add_zero _ | exact Int64.add_zero _ | (exfalso; simp_all [-Int32.not_lt, -Int32.not_le]; done)) | (simp_all [-Int32.not_lt, -Int32.not_le]; done))
  have hl2 : lv_has ls 6 [(0, .ref (ad 0 0)), (1, .int place), (2, .ref (ad 3 0)), (3, .int 24), (4, .int (nI (0)))] := by
    rw [e_8]
    exact lv_sub hl [3, 4, 2, 1, 0] rfl
  exact lp11 (24 - 0 + 1) (0) (Nat.zero_le _) rfl (Nat.lt_succ_self _) ls hl2
theorem tw_inX6_nearest_4 : ∀ w ∈ (vx_at0 RX6 129 (en 4) exN).filter goodWord, w ∈ wsX6_nearest := by decide +kernel
set_option maxHeartbeats 4000000 in
set_option maxRecDepth 100000 in
theorem qX6_nearest (la : Launch) (hst : la.stackTraces = false) (g : EG) (lo : Nat) (ad : Nat → Nat → Nat) (σ : Sg) (u : Nat → Int64) (τ : Sg) (hI : INV σ) (hA : XA lo ad σ) (l : Int32) : vx_Met la yX6_nearest wsX6_nearest ({ frames := 8, cells := 3, slots := 18, locals := 144 } : Room) (va_Pc [.ref (ad 0 0), .int l] (fun U => XR g ad σ u τ U.heap ∧ EV g lo U)) (QX (exOf 1 3 4 (t_near σ l)) (.returned (some (.int (bestF σ l (nL σ)))))) (XX (exOf 1 3 4 (t_near σ l))) 3 18 (fun _ => False) := by
  refine vx_ofW (cc := cX6_nearest) (maxL := 10) (ret := (some .int)) (by decide) rfl ?_
  intro p e s m args below meth c s₁ B hml ht hv
  obtain ⟨rfl, hX, hE⟩ := hv
  have hK := hE.1
  have hx := B.exec
  have hb := B.bytes
  have hr := B.returns
  have hts := atoms_spec (ws := wsX6_nearest) B.pre
  have hown : s.vm.findClass RX6 = some m.cls := findClass_of_methodNamed B.named
  have hlocks := B.notSynchronized
  have hinX0 : ∀ w ∈ wsX00, w ∈ wsX6_nearest := by decide +kernel
  have hinX6 : ∀ w ∈ wsX60, w ∈ wsX6_nearest := by decide +kernel
  have lk140 := hts (.fieldLink RX6 140 "DyehouseLedger$Lot" "shade" "LDyehouseLedger$Shade;") (by decide +kernel)
  have lk147 := hts (.fieldLink RX6 147 "DyehouseLedger$Lot" "state" "C") (by decide +kernel)
  have lk197 := hts (.fieldLink RX6 197 "DyehouseLedger$Lot" "number" "I") (by decide +kernel)
  have lk23 := hts (.fieldLink RX6 23 "DyehouseLedger" "allLots" "[LDyehouseLedger$Lot;") (by decide +kernel)
  have ti4 := hts (.initialized "java/lang/UnsupportedOperationException") (by decide +kernel)
  have tk4 := hts (.classLink RX6 127 "java/lang/UnsupportedOperationException") (by decide +kernel)
  have tw4 : ∀ w ∈ (vx_at0 RX6 129 (en 4) exN).filter goodWord, w.before _ s = true := fun w h => hts w (tw_inX6_nearest_4 w h)
  have hl := lv_entry ([.ref (ad 0 0), .int l]) (n := 10) (Nat.le_of_ble_eq_true rfl)
  rw [lg_entry_eq]
  generalize (lg_sl ([.ref (ad 0 0), .int l]) ++ List.replicate (10 - (lg_sl ([.ref (ad 0 0), .int l])).length) Slot.unset).toArray = ls at hl ⊢
  have hl : lv_has ls 10 [(0, .ref (ad 0 0)), (1, .int l)] := hl
  have hbL := hI.l.1
  have hbO := hI.o.1
  have hbV := hI.v.1
  by_cases kl9 : okL σ l
  · obtain ⟨i, hi, rfl⟩ := vp_in_of ((okL_in hI l).mp kl9) (Nat.lt_of_le_of_lt hI.l.1 (by decide))
    have hbi : nL σ ≤ _ := hI.l.1
    have eti : ti (nI i) = i := ti_nI (by omega)
    refine lv_aload_n hx hb dX6_nearest_0 rfl (lv_at hl 0 rfl) ?_
    refine lv_iload_n hx hb dX6_nearest_1 rfl (lv_at hl 1 rfl) ?_
    refine xc_v (n := 1) (As := [.int (nI i)]) (rest := []) (v := [.ref (ad 16 i)]) ⟨hx, hb, hml, hown, hts⟩ hE hX ht hlocks (fun q => by have h9 : ¬ (¬ σ 21 i = 119) := fun z => q (by unfold eSd; rw [ti_nI (by omega), if_pos kl9]; exact if_neg z); exact (show (exOf 1 3 4 (t_near σ (nI i))) = 3 from by rw [show (t_near σ (nI i)) = 2 from (by simp only [tD, tL, tV, tO, tW, tLV, tN, t_needs, t_plannedAt, t_shadeOf, t_dist, t_near, t_cell, t_byLight, t_dues, t_share, t_mean, okW, eti]; (repeat' split) <;> first | rfl | contradiction | (exfalso; simp_all [-Int32.not_lt, -Int32.not_le]; done))]; rfl).trans (show eSd σ (nI i) = 3 from by unfold eSd; rw [ti_nI (by omega), if_pos kl9]; exact if_pos (Decidable.not_not.mp h9)).symm) (qX6_shadedLotNumbered la hst g lo ad σ u τ hI (nI i)) gX6_nearest_X6_shadedLotNumbered rfl rfl rfl (by decide +kernel) ⟨Nat.le_of_ble_eq_true rfl, Nat.le_of_ble_eq_true rfl⟩ rfl hl.1 rfl (Nat.le_of_ble_eq_true rfl) dX6_nearest_2 ⟨Nat.le_of_ble_eq_true rfl, Nat.le_of_ble_eq_true rfl⟩ ⟨Nat.le_of_ble_eq_true rfl, Nat.le_of_ble_eq_true rfl⟩ (fun _ => congrArg (fun z => [Value.ref (ad 16 z)]) (ti_nI (by omega))) (fun h_1 => ?_)
    have hsi : ¬ σ 21 i = 119 := eSd0 hI hi h_1
    refine lv_astore_n (lv' := [(2, .ref (ad 16 i)), (0, .ref (ad 0 0)), (1, .int (nI i))]) hx hb dX6_nearest_5 rfl hl (by decide) rfl (fun ls hl => ?_)
    refine lv_iconst (v := (-1)) hx hb dX6_nearest_6 (by decide) ?_
    refine lv_istore_n (lv' := [(3, .int (-1)), (2, .ref (ad 16 i)), (0, .ref (ad 0 0)), (1, .int (nI i))]) hx hb dX6_nearest_7 rfl hl (by decide) rfl (fun ls hl => ?_)
    refine lv_iconst (v := 0) hx hb dX6_nearest_8 (by decide) ?_
    refine lv_istore (lv' := [(4, .int 0), (3, .int (-1)), (2, .ref (ad 16 i)), (0, .ref (ad 0 0)), (1, .int (nI i))]) hx hb dX6_nearest_9 hl (by decide) rfl (fun ls hl => ?_)
    refine lv_aload_n hx hb dX6_nearest_11 rfl (lv_at hl 3 rfl) ?_
    refine x_get (K := 0) (i := 0) (v := .ref (ad 3 0)) hx hb hts hinX6 hown hK hX (show 0 < 1 from Nat.zero_lt_one) 2 rfl rfl (by decide) rfl lk23 rfl dX6_nearest_12 ?_
    refine lv_astore (lv' := [(5, .ref (ad 3 0)), (4, .int 0), (3, .int (-1)), (2, .ref (ad 16 i)), (0, .ref (ad 0 0)), (1, .int (nI i))]) hx hb dX6_nearest_15 hl (by decide) rfl (fun ls hl => ?_)
    refine lv_aload hx hb dX6_nearest_17 (lv_at hl 0 rfl) ?_
    refine x_alen (K := 3) (t0 := 3) (v := 24) hx hb hK hX (show 0 < 1 from Nat.zero_lt_one) rfl rfl rfl dX6_nearest_19 ?_
    refine lv_istore (lv' := [(6, .int 24), (5, .ref (ad 3 0)), (4, .int 0), (3, .int (-1)), (2, .ref (ad 16 i)), (0, .ref (ad 0 0)), (1, .int (nI i))]) hx hb dX6_nearest_20 hl (by decide) rfl (fun ls hl => ?_)
    refine lv_iconst (v := 0) hx hb dX6_nearest_22 (by decide) ?_
    refine lv_istore (lv' := [(7, .int 0), (6, .int 24), (5, .ref (ad 3 0)), (4, .int 0), (3, .int (-1)), (2, .ref (ad 16 i)), (0, .ref (ad 0 0)), (1, .int (nI i))]) hx hb dX6_nearest_23 hl (by decide) rfl (fun ls hl => ?_)
    have lp25 : ∀ (n9 : Nat) (j : Nat), (j ≤ 24) → 24 - j < n9 → ∀ (ls : Array Slot), lv_has ls 10 [(0, .ref (ad 0 0)), (1, .int (nI i)), (2, .ref (ad 16 i)), (3, .int (bestC σ i j)), (4, .int (leastC σ i j)), (5, .ref (ad 3 0)), (6, .int 24), (7, .int (nI j))] → W p la e ({ frames := 8, cells := 3, slots := 18, locals := 144 } : Room) s m ([.ref (ad 0 0), .int (nI i)] : List Value).toArray below meth c s.heap [] 2 12 (vx_MQ below (QX (exOf 1 3 4 (t_near σ (nI i))) (.returned (some (.int (bestF σ (nI i) (nL σ)))))) (XX (exOf 1 3 4 (t_near σ (nI i)))) ([.ref (ad 0 0), .int (nI i)] : List Value).toArray s 3 18 (fun _ => False)) (F0 m 25 ls []) := by
      intro n9_25
      induction n9_25 with
      | zero => intro j _ h9 ; exact absurd h9 (Nat.not_lt_zero _)
      | succ n9_25 ih_25 =>
        intro j hj h9 ls hl
        refine lv_iload hx hb dX6_nearest_25 (lv_at hl 7 rfl) ?_
        refine lv_iload hx hb dX6_nearest_27 (lv_at hl 6 rfl) ?_
        refine lv_icmp_ge (tgt := 102) hx hb dX6_nearest_29 (by decide) (fun c_2 => ?_) (fun c_2 => ?_)
        · replace c_2 := Int32.not_lt.mpr c_2
          obtain rfl : j = 24 := ge24 hj c_2
          have hV := bestC_24 hI hi
          refine lv_iload_n hx hb dX6_nearest_102 rfl (lv_at hl 3 rfl) ?_
          refine lv_iconst (v := (-1)) hx hb dX6_nearest_103 (by decide) ?_
          refine lv_icmp_ne (tgt := 115) hx hb dX6_nearest_104 (by decide) (fun c_3 => ?_) (fun c_3 => ?_)
          · refine lv_iload_n hx hb dX6_nearest_115 rfl (lv_at hl 3 rfl) ?_
            refine vx_ret ?_
            refine W.widen (k := 3) (n := 18) (Nat.le_of_ble_eq_true rfl) (Nat.le_of_ble_eq_true rfl) ?_
            exact W.iret (v := (bestC σ i 24)) hx hb hr (fun t ht9 hW => ⟨(show (exOf 1 3 4 (t_near σ (nI i))) = 0 from by rw [show (t_near σ (nI i)) = 0 from (by simp only [tD, tL, tV, tO, tW, tLV, tN, t_needs, t_plannedAt, t_shadeOf, t_dist, t_near, t_cell, t_byLight, t_dues, t_share, t_mean, okW, eti]; (repeat' split) <;> first | rfl | contradiction | (exfalso; simp_all [-Int32.not_lt, -Int32.not_le]; done))]; rfl), congrArg (fun z => Outcome.returned (some (Value.int z))) hV, ht9⟩) (fun _ h => nomatch h) dX6_nearest_116
          · exact x_throw (k9 := 4) (ic := 129) hx hb hst hown hE ht hlocks (hl.1.trans hml.symm) (fun _ _ _ => trivial) (by decide) tk4 ti4 tw4 bad4 good4 (by decide) (show (exOf 1 3 4 (t_near σ (nI i))) = 4 from by rw [show (t_near σ (nI i)) = 3 from (by simp only [tD, tL, tV, tO, tW, tLV, tN, t_needs, t_plannedAt, t_shadeOf, t_dist, t_near, t_cell, t_byLight, t_dues, t_share, t_mean, okW, eti]; (repeat' split) <;> first | rfl | contradiction | (exfalso; simp_all [-Int32.not_lt, -Int32.not_le]; done))]; rfl) dX6_nearest_107 dX6_nearest_110 dX6_nearest_111 dX6_nearest_114 (Nat.le_of_ble_eq_true rfl) (Nat.le_of_ble_eq_true rfl) (Nat.le_of_ble_eq_true rfl) (Nat.le_of_ble_eq_true rfl) (Nat.le_of_ble_eq_true rfl) (Nat.le_of_ble_eq_true rfl)
        · replace c_2 := Int32.not_le.mp c_2
          have hj1 : j < 24 := lt24 hj c_2
          refine lv_aload hx hb dX6_nearest_32 (lv_at hl 5 rfl) ?_
          refine lv_iload hx hb dX6_nearest_34 (lv_at hl 7 rfl) ?_
          by_cases z_4 : j < nL σ
          · refine x_aald (K := 3) (t0 := 3) (C := RX0) (n := 24) (f := refA ad 16 (nL σ)) (j := (nI j)) (v := .ref (ad 16 j)) hx hb hK hX (show 0 < 1 from Nat.zero_lt_one) rfl rfl (vin_nI hj1 (by decide)) (by rw [(ti_nI (by omega))]; exact refA_in z_4) dX6_nearest_36 ?_
            refine lv_astore (lv' := [(8, .ref (ad 16 j)), (0, .ref (ad 0 0)), (1, .int (nI i)), (2, .ref (ad 16 i)), (3, .int (bestC σ i j)), (4, .int (leastC σ i j)), (5, .ref (ad 3 0)), (6, .int 24), (7, .int (nI j))]) hx hb dX6_nearest_37 hl (by decide) rfl (fun ls hl => ?_)
            refine lv_aload hx hb dX6_nearest_39 (lv_at hl 0 rfl) ?_
            refine lv_ifnull hx hb dX6_nearest_41 ?_
            refine lv_aload hx hb dX6_nearest_44 (lv_at hl 0 rfl) ?_
            refine lv_aload_n hx hb dX6_nearest_46 rfl (lv_at hl 3 rfl) ?_
            refine x_acmp_eq (tgt := 96) hx hb dX6_nearest_47 (by decide) (fun c_5 => ?_) (fun c_5 => ?_)
            · replace c_5 := (xa_iff hA (K := 16) z_4 hi).mp c_5
              refine lv_iinc (v := ((nI j) + 1)) (lv' := [(7, .int ((nI j) + 1)), (8, .ref (ad 16 j)), (0, .ref (ad 0 0)), (1, .int (nI i)), (2, .ref (ad 16 i)), (3, .int (bestC σ i j)), (4, .int (leastC σ i j)), (5, .ref (ad 3 0)), (6, .int 24)]) hx hb dX6_nearest_96 hl (k := 8) rfl rfl (by decide) rfl (fun ls hl => ?_)
              refine lv_goto (tgt := 25) hx hb dX6_nearest_99 (by decide) ?_
              have e_6 : ((bestC σ i (j + 1)) : Int32) = (bestC σ i j) := (by first | exact bestC_take (by assumption) (by assumption) (by assumption) (by first | exact Or.inl (by assumption) | exact Or.inr (by assumption)) | exact bestC_skip (by rintro ⟨q1, q2, q3⟩; first | exact absurd q1 (by assumption) | exact q2 (by assumption) | exact absurd q3 (by assumption)) | exact bestC_leave (by assumption) (by assumption))
              have e_7 : ((leastC σ i (j + 1)) : Int32) = (leastC σ i j) := (by first | exact leastC_take (by omega) (by assumption) (by assumption) (by assumption) (by first | exact Or.inl (by assumption) | exact Or.inr (by assumption)) | exact leastC_skip (by rintro ⟨q1, q2, q3⟩; first | exact absurd q1 (by assumption) | exact q2 (by assumption) | exact absurd q3 (by assumption)) | exact leastC_leave (by assumption) (by assumption))
              have e_8 : ((nI (j + 1)) : Int32) = ((nI j) + 1) := (nI_1 j).symm
              have hl2 : lv_has ls 10 [(0, .ref (ad 0 0)), (1, .int (nI i)), (2, .ref (ad 16 i)), (3, .int (bestC σ i (j + 1))), (4, .int (leastC σ i (j + 1))), (5, .ref (ad 3 0)), (6, .int 24), (7, .int (nI (j + 1)))] := by
                rw [e_6, e_7, e_8]
                exact lv_sub hl [2, 3, 4, 5, 6, 7, 8, 0] rfl
              exact ih_25 (j + 1) (by omega) (by omega) ls hl2
            · replace c_5 := fun q => c_5 ((xa_iff hA (K := 16) z_4 hi).mpr q)
              refine lv_aload hx hb dX6_nearest_50 (lv_at hl 0 rfl) ?_
              refine x_get (K := 16) (i := j) (v := .int (σ 21 j)) hx hb hts hinX0 hown hK hX z_4 4 rfl rfl (by decide) rfl lk147 rfl dX6_nearest_52 ?_
              refine lv_bipush (v := 112) hx hb dX6_nearest_55 (by decide) ?_
              refine lv_icmp_ne (tgt := 96) hx hb dX6_nearest_57 (by decide) (fun c_9 => ?_) (fun c_9 => ?_)
              · refine lv_iinc (v := ((nI j) + 1)) (lv' := [(7, .int ((nI j) + 1)), (8, .ref (ad 16 j)), (0, .ref (ad 0 0)), (1, .int (nI i)), (2, .ref (ad 16 i)), (3, .int (bestC σ i j)), (4, .int (leastC σ i j)), (5, .ref (ad 3 0)), (6, .int 24)]) hx hb dX6_nearest_96 hl (k := 8) rfl rfl (by decide) rfl (fun ls hl => ?_)
                refine lv_goto (tgt := 25) hx hb dX6_nearest_99 (by decide) ?_
                have e_10 : ((bestC σ i (j + 1)) : Int32) = (bestC σ i j) := (by first | exact bestC_take (by assumption) (by assumption) (by assumption) (by first | exact Or.inl (by assumption) | exact Or.inr (by assumption)) | exact bestC_skip (by rintro ⟨q1, q2, q3⟩; first | exact absurd q1 (by assumption) | exact q2 (by assumption) | exact absurd q3 (by assumption)) | exact bestC_leave (by assumption) (by assumption))
                have e_11 : ((leastC σ i (j + 1)) : Int32) = (leastC σ i j) := (by first | exact leastC_take (by omega) (by assumption) (by assumption) (by assumption) (by first | exact Or.inl (by assumption) | exact Or.inr (by assumption)) | exact leastC_skip (by rintro ⟨q1, q2, q3⟩; first | exact absurd q1 (by assumption) | exact q2 (by assumption) | exact absurd q3 (by assumption)) | exact leastC_leave (by assumption) (by assumption))
                have e_12 : ((nI (j + 1)) : Int32) = ((nI j) + 1) := (nI_1 j).symm
                have hl2 : lv_has ls 10 [(0, .ref (ad 0 0)), (1, .int (nI i)), (2, .ref (ad 16 i)), (3, .int (bestC σ i (j + 1))), (4, .int (leastC σ i (j + 1))), (5, .ref (ad 3 0)), (6, .int 24), (7, .int (nI (j + 1)))] := by
                  rw [e_10, e_11, e_12]
                  exact lv_sub hl [2, 3, 4, 5, 6, 7, 8, 0] rfl
                exact ih_25 (j + 1) (by omega) (by omega) ls hl2
              · refine lv_aload_n hx hb dX6_nearest_60 rfl (lv_at hl 3 rfl) ?_
                refine x_get (K := 16) (i := i) (v := .ref (ad 17 i)) hx hb hts hinX0 hown hK hX hi 3 rfl rfl (by decide) rfl lk140 rfl dX6_nearest_61 ?_
                refine lv_aload hx hb dX6_nearest_64 (lv_at hl 0 rfl) ?_
                refine x_get (K := 16) (i := j) (v := .ref (ad 17 j)) hx hb hts hinX0 hown hK hX z_4 3 rfl rfl (by decide) rfl lk140 rfl dX6_nearest_66 ?_
                refine xc_ro (n := 1) (K := 17) (i := i) (As := [.ref (ad 17 j)]) (rest := []) (v := [.int (f_apart σ (nI i) (nI j))]) ⟨hx, hb, hml, hown, hts⟩ hK hX hi rfl rfl (qX4_distanceTo la g ad σ u τ 17 i 17 j (σ 16 (3 * i)) (σ 16 (3 * i + 1)) (σ 16 (3 * i + 2)) (σ 16 (3 * j)) (σ 16 (3 * j + 1)) (σ 16 (3 * j + 2)) hi z_4 (fun _ => rfl) (fun _ => rfl) (hI.2.2.2.2.2.2.2.2.2.2.1 _) (hI.2.2.2.2.2.2.2.2.2.2.1 _) (hI.2.2.2.2.2.2.2.2.2.2.1 _) (hI.2.2.2.2.2.2.2.2.2.2.1 _) (hI.2.2.2.2.2.2.2.2.2.2.1 _) (hI.2.2.2.2.2.2.2.2.2.2.1 _)) gX6_nearest_X4_distanceTo rfl rfl rfl (by decide +kernel) ⟨Nat.le_of_ble_eq_true rfl, Nat.le_of_ble_eq_true rfl⟩ rfl hl.1 rfl (Nat.le_of_ble_eq_true rfl) dX6_nearest_69 ⟨Nat.le_of_ble_eq_true rfl, Nat.le_of_ble_eq_true rfl⟩ (congrArg (fun z => [Value.int z]) (apartNI (by omega) (by omega)).symm) ?_
                refine lv_istore (lv' := [(9, .int (f_apart σ (nI i) (nI j))), (8, .ref (ad 16 j)), (0, .ref (ad 0 0)), (1, .int (nI i)), (2, .ref (ad 16 i)), (3, .int (bestC σ i j)), (4, .int (leastC σ i j)), (5, .ref (ad 3 0)), (6, .int 24), (7, .int (nI j))]) hx hb dX6_nearest_72 hl (by decide) rfl (fun ls hl => ?_)
                refine lv_iload_n hx hb dX6_nearest_74 rfl (lv_at hl 5 rfl) ?_
                refine lv_iconst (v := (-1)) hx hb dX6_nearest_75 (by decide) ?_
                refine lv_icmp_eq (tgt := 86) hx hb dX6_nearest_76 (by decide) (fun c_13 => ?_) (fun c_13 => ?_)
                · refine lv_aload hx hb dX6_nearest_86 (lv_at hl 1 rfl) ?_
                  refine x_get (K := 16) (i := j) (v := .int (nI j)) hx hb hts hinX0 hown hK hX z_4 0 rfl rfl (by decide) rfl lk197 rfl dX6_nearest_88 ?_
                  refine lv_istore_n (lv' := [(3, .int (nI j)), (9, .int (f_apart σ (nI i) (nI j))), (8, .ref (ad 16 j)), (0, .ref (ad 0 0)), (1, .int (nI i)), (2, .ref (ad 16 i)), (4, .int (leastC σ i j)), (5, .ref (ad 3 0)), (6, .int 24), (7, .int (nI j))]) hx hb dX6_nearest_91 rfl hl (by decide) rfl (fun ls hl => ?_)
                  refine lv_iload hx hb dX6_nearest_92 (lv_at hl 1 rfl) ?_
                  refine lv_istore (lv' := [(4, .int (f_apart σ (nI i) (nI j))), (3, .int (nI j)), (9, .int (f_apart σ (nI i) (nI j))), (8, .ref (ad 16 j)), (0, .ref (ad 0 0)), (1, .int (nI i)), (2, .ref (ad 16 i)), (5, .ref (ad 3 0)), (6, .int 24), (7, .int (nI j))]) hx hb dX6_nearest_94 hl (by decide) rfl (fun ls hl => ?_)
                  refine lv_iinc (v := ((nI j) + 1)) (lv' := [(7, .int ((nI j) + 1)), (4, .int (f_apart σ (nI i) (nI j))), (3, .int (nI j)), (9, .int (f_apart σ (nI i) (nI j))), (8, .ref (ad 16 j)), (0, .ref (ad 0 0)), (1, .int (nI i)), (2, .ref (ad 16 i)), (5, .ref (ad 3 0)), (6, .int 24)]) hx hb dX6_nearest_96 hl (k := 9) rfl rfl (by decide) rfl (fun ls hl => ?_)
                  refine lv_goto (tgt := 25) hx hb dX6_nearest_99 (by decide) ?_
                  have e_14 : ((bestC σ i (j + 1)) : Int32) = (nI j) := (by first | exact bestC_take (by assumption) (by assumption) (by assumption) (by first | exact Or.inl (by assumption) | exact Or.inr (by assumption)) | exact bestC_skip (by rintro ⟨q1, q2, q3⟩; first | exact absurd q1 (by assumption) | exact q2 (by assumption) | exact absurd q3 (by assumption)) | exact bestC_leave (by assumption) (by assumption))
                  have e_15 : ((leastC σ i (j + 1)) : Int32) = (f_apart σ (nI i) (nI j)) := (by first | exact leastC_take (by omega) (by assumption) (by assumption) (by assumption) (by first | exact Or.inl (by assumption) | exact Or.inr (by assumption)) | exact leastC_skip (by rintro ⟨q1, q2, q3⟩; first | exact absurd q1 (by assumption) | exact q2 (by assumption) | exact absurd q3 (by assumption)) | exact leastC_leave (by assumption) (by assumption))
                  have e_16 : ((nI (j + 1)) : Int32) = ((nI j) + 1) := (nI_1 j).symm
                  have hl2 : lv_has ls 10 [(0, .ref (ad 0 0)), (1, .int (nI i)), (2, .ref (ad 16 i)), (3, .int (bestC σ i (j + 1))), (4, .int (leastC σ i (j + 1))), (5, .ref (ad 3 0)), (6, .int 24), (7, .int (nI (j + 1)))] := by
                    rw [e_14, e_15, e_16]
                    exact lv_sub hl [5, 6, 7, 2, 1, 8, 9, 0] rfl
                  exact ih_25 (j + 1) (by omega) (by omega) ls hl2
                · refine lv_iload hx hb dX6_nearest_79 (lv_at hl 0 rfl) ?_
                  refine lv_iload hx hb dX6_nearest_81 (lv_at hl 6 rfl) ?_
                  refine lv_icmp_ge (tgt := 96) hx hb dX6_nearest_83 (by decide) (fun c_17 => ?_) (fun c_17 => ?_)
                  · replace c_17 := Int32.not_lt.mpr c_17
                    refine lv_iinc (v := ((nI j) + 1)) (lv' := [(7, .int ((nI j) + 1)), (9, .int (f_apart σ (nI i) (nI j))), (8, .ref (ad 16 j)), (0, .ref (ad 0 0)), (1, .int (nI i)), (2, .ref (ad 16 i)), (3, .int (bestC σ i j)), (4, .int (leastC σ i j)), (5, .ref (ad 3 0)), (6, .int 24)]) hx hb dX6_nearest_96 hl (k := 9) rfl rfl (by decide) rfl (fun ls hl => ?_)
                    refine lv_goto (tgt := 25) hx hb dX6_nearest_99 (by decide) ?_
                    have e_18 : ((bestC σ i (j + 1)) : Int32) = (bestC σ i j) := (by first | exact bestC_take (by assumption) (by assumption) (by assumption) (by first | exact Or.inl (by assumption) | exact Or.inr (by assumption)) | exact bestC_skip (by rintro ⟨q1, q2, q3⟩; first | exact absurd q1 (by assumption) | exact q2 (by assumption) | exact absurd q3 (by assumption)) | exact bestC_leave (by assumption) (by assumption))
                    have e_19 : ((leastC σ i (j + 1)) : Int32) = (leastC σ i j) := (by first | exact leastC_take (by omega) (by assumption) (by assumption) (by assumption) (by first | exact Or.inl (by assumption) | exact Or.inr (by assumption)) | exact leastC_skip (by rintro ⟨q1, q2, q3⟩; first | exact absurd q1 (by assumption) | exact q2 (by assumption) | exact absurd q3 (by assumption)) | exact leastC_leave (by assumption) (by assumption))
                    have e_20 : ((nI (j + 1)) : Int32) = ((nI j) + 1) := (nI_1 j).symm
                    have hl2 : lv_has ls 10 [(0, .ref (ad 0 0)), (1, .int (nI i)), (2, .ref (ad 16 i)), (3, .int (bestC σ i (j + 1))), (4, .int (leastC σ i (j + 1))), (5, .ref (ad 3 0)), (6, .int 24), (7, .int (nI (j + 1)))] := by
                      rw [e_18, e_19, e_20]
                      exact lv_sub hl [3, 4, 5, 6, 7, 8, 9, 0] rfl
                    exact ih_25 (j + 1) (by omega) (by omega) ls hl2
                  · replace c_17 := Int32.not_le.mp c_17
                    refine lv_aload hx hb dX6_nearest_86 (lv_at hl 1 rfl) ?_
                    refine x_get (K := 16) (i := j) (v := .int (nI j)) hx hb hts hinX0 hown hK hX z_4 0 rfl rfl (by decide) rfl lk197 rfl dX6_nearest_88 ?_
                    refine lv_istore_n (lv' := [(3, .int (nI j)), (9, .int (f_apart σ (nI i) (nI j))), (8, .ref (ad 16 j)), (0, .ref (ad 0 0)), (1, .int (nI i)), (2, .ref (ad 16 i)), (4, .int (leastC σ i j)), (5, .ref (ad 3 0)), (6, .int 24), (7, .int (nI j))]) hx hb dX6_nearest_91 rfl hl (by decide) rfl (fun ls hl => ?_)
                    refine lv_iload hx hb dX6_nearest_92 (lv_at hl 1 rfl) ?_
                    refine lv_istore (lv' := [(4, .int (f_apart σ (nI i) (nI j))), (3, .int (nI j)), (9, .int (f_apart σ (nI i) (nI j))), (8, .ref (ad 16 j)), (0, .ref (ad 0 0)), (1, .int (nI i)), (2, .ref (ad 16 i)), (5, .ref (ad 3 0)), (6, .int 24), (7, .int (nI j))]) hx hb dX6_nearest_94 hl (by decide) rfl (fun ls hl => ?_)
                    refine lv_iinc (v := ((nI j) + 1)) (lv' := [(7, .int ((nI j) + 1)), (4, .int (f_apart σ (nI i) (nI j))), (3, .int (nI j)), (9, .int (f_apart σ (nI i) (nI j))), (8, .ref (ad 16 j)), (0, .ref (ad 0 0)), (1, .int (nI i)), (2, .ref (ad 16 i)), (5, .ref (ad 3 0)), (6, .int 24)]) hx hb dX6_nearest_96 hl (k := 9) rfl rfl (by decide) rfl (fun ls hl => ?_)
                    refine lv_goto (tgt := 25) hx hb dX6_nearest_99 (by decide) ?_
                    have e_21 : ((bestC σ i (j + 1)) : Int32) = (nI j) := (by first | exact bestC_take (by assumption) (by assumption) (by assumption) (by first | exact Or.inl (by assumption) | exact Or.inr (by assumption)) | exact bestC_skip (by rintro ⟨q1, q2, q3⟩; first | exact absurd q1 (by assumption) | exact q2 (by assumption) | exact absurd q3 (by assumption)) | exact bestC_leave (by assumption) (by assumption))
                    have e_22 : ((leastC σ i (j + 1)) : Int32) = (f_apart σ (nI i) (nI j)) := (by first | exact leastC_take (by omega) (by assumption) (by assumption) (by assumption) (by first | exact Or.inl (by assumption) | exact Or.inr (by assumption)) | exact leastC_skip (by rintro ⟨q1, q2, q3⟩; first | exact absurd q1 (by assumption) | exact q2 (by assumption) | exact absurd q3 (by assumption)) | exact leastC_leave (by assumption) (by assumption))
                    have e_23 : ((nI (j + 1)) : Int32) = ((nI j) + 1) := (nI_1 j).symm
                    have hl2 : lv_has ls 10 [(0, .ref (ad 0 0)), (1, .int (nI i)), (2, .ref (ad 16 i)), (3, .int (bestC σ i (j + 1))), (4, .int (leastC σ i (j + 1))), (5, .ref (ad 3 0)), (6, .int 24), (7, .int (nI (j + 1)))] := by
                      rw [e_21, e_22, e_23]
                      exact lv_sub hl [5, 6, 7, 2, 1, 8, 9, 0] rfl
                    exact ih_25 (j + 1) (by omega) (by omega) ls hl2
          · refine x_aald (K := 3) (t0 := 3) (C := RX0) (n := 24) (f := refA ad 16 (nL σ)) (j := (nI j)) (v := .null) hx hb hK hX (show 0 < 1 from Nat.zero_lt_one) rfl rfl (vin_nI hj1 (by decide)) (by rw [(ti_nI (by omega))]; exact refA_no z_4) dX6_nearest_36 ?_
            refine lv_astoreN (lv' := [(8, .null), (0, .ref (ad 0 0)), (1, .int (nI i)), (2, .ref (ad 16 i)), (3, .int (bestC σ i j)), (4, .int (leastC σ i j)), (5, .ref (ad 3 0)), (6, .int 24), (7, .int (nI j))]) hx hb dX6_nearest_37 hl (by decide) rfl (fun ls hl => ?_)
            refine lv_aloadN hx hb dX6_nearest_39 (lv_at hl 0 rfl) ?_
            refine lv_ifnullN (tgt := 96) hx hb dX6_nearest_41 (by decide) ?_
            refine lv_iinc (v := ((nI j) + 1)) (lv' := [(7, .int ((nI j) + 1)), (8, .null), (0, .ref (ad 0 0)), (1, .int (nI i)), (2, .ref (ad 16 i)), (3, .int (bestC σ i j)), (4, .int (leastC σ i j)), (5, .ref (ad 3 0)), (6, .int 24)]) hx hb dX6_nearest_96 hl (k := 8) rfl rfl (by decide) rfl (fun ls hl => ?_)
            refine lv_goto (tgt := 25) hx hb dX6_nearest_99 (by decide) ?_
            have e_24 : ((bestC σ i (j + 1)) : Int32) = (bestC σ i j) := (by first | exact bestC_take (by assumption) (by assumption) (by assumption) (by first | exact Or.inl (by assumption) | exact Or.inr (by assumption)) | exact bestC_skip (by rintro ⟨q1, q2, q3⟩; first | exact absurd q1 (by assumption) | exact q2 (by assumption) | exact absurd q3 (by assumption)) | exact bestC_leave (by assumption) (by assumption))
            have e_25 : ((leastC σ i (j + 1)) : Int32) = (leastC σ i j) := (by first | exact leastC_take (by omega) (by assumption) (by assumption) (by assumption) (by first | exact Or.inl (by assumption) | exact Or.inr (by assumption)) | exact leastC_skip (by rintro ⟨q1, q2, q3⟩; first | exact absurd q1 (by assumption) | exact q2 (by assumption) | exact absurd q3 (by assumption)) | exact leastC_leave (by assumption) (by assumption))
            have e_26 : ((nI (j + 1)) : Int32) = ((nI j) + 1) := (nI_1 j).symm
            have hl2 : lv_has ls 10 [(0, .ref (ad 0 0)), (1, .int (nI i)), (2, .ref (ad 16 i)), (3, .int (bestC σ i (j + 1))), (4, .int (leastC σ i (j + 1))), (5, .ref (ad 3 0)), (6, .int 24), (7, .int (nI (j + 1)))] := by
              rw [e_24, e_25, e_26]
              exact lv_sub hl [2, 3, 4, 5, 6, 7, 8, 0] rfl
            exact ih_25 (j + 1) (by omega) (by omega) ls hl2
    have e_27 : ((bestC σ i (0)) : Int32) = (-1) := (by first | rfl | ((repeat' split) <;> first | rfl | contradiction | exact Int32.add_zero _ | exact Int64.add_zero _ | (exfalso; simp_all [-Int32.not_lt, -Int32.not_le]; done)) | (simp_all [-Int32.not_lt, -Int32.not_le]; done))
    have e_28 : ((leastC σ i (0)) : Int32) = 0 := (by first | rfl | ((repeat' split) <;> first | rfl | contradiction | exact Int32.add_zero _ | exact Int64.add_zero _ | (exfalso; simp_all [-Int32.not_lt, -Int32.not_le]; done)) | (simp_all [-Int32.not_lt, -Int32.not_le]; done))
    have e_29 : ((nI (0)) : Int32) = 0 := (by first | rfl | ((repeat' split) <;> first | rfl | contradiction | exact Int32.add_zero _ | exact Int64.add_zero _ | (exfalso; simp_all [-Int32.not_lt, -Int32.not_le]; done)) | (simp_all [-Int32.not_lt, -Int32.not_le]; done))
    have hl2 : lv_has ls 10 [(0, .ref (ad 0 0)), (1, .int (nI i)), (2, .ref (ad 16 i)), (3, .int (bestC σ i (0))), (4, .int (leastC σ i (0))), (5, .ref (ad 3 0)), (6, .int 24), (7, .int (nI (0)))] := by
      rw [e_27, e_28, e_29]
      exact lv_sub hl [6, 7, 5, 4, 3, 2, 1, 0] rfl
    exact lp25 (24 - 0 + 1) (0) (Nat.zero_le _) (Nat.lt_succ_self _) ls hl2
  · refine lv_aload_n hx hb dX6_nearest_0 rfl (lv_at hl 0 rfl) ?_
    refine lv_iload_n hx hb dX6_nearest_1 rfl (lv_at hl 1 rfl) ?_
    refine xc_v (n := 1) (As := [.int l]) (rest := []) (v := [.ref (ad 16 (ti l))]) ⟨hx, hb, hml, hown, hts⟩ hE hX ht hlocks (fun _ => ((show (exOf 1 3 4 (t_near σ l)) = 1 from by rw [show (t_near σ l) = 1 from (by simp only [tD, tL, tV, tO, tW, tLV, tN, t_needs, t_plannedAt, t_shadeOf, t_dist, t_near, t_cell, t_byLight, t_dues, t_share, t_mean, okW]; (repeat' split) <;> first | rfl | contradiction | (exfalso; simp_all [-Int32.not_lt, -Int32.not_le]; done))]; rfl)).trans (show eSd σ l = 1 from if_neg kl9).symm) (qX6_shadedLotNumbered la hst g lo ad σ u τ hI l) gX6_nearest_X6_shadedLotNumbered rfl rfl rfl (by decide +kernel) ⟨Nat.le_of_ble_eq_true rfl, Nat.le_of_ble_eq_true rfl⟩ rfl hl.1 rfl (Nat.le_of_ble_eq_true rfl) dX6_nearest_2 ⟨Nat.le_of_ble_eq_true rfl, Nat.le_of_ble_eq_true rfl⟩ ⟨Nat.le_of_ble_eq_true rfl, Nat.le_of_ble_eq_true rfl⟩ (fun _ => rfl) (fun h_31 => ?_)
    exact absurd h_31 (by rw [show eSd σ l = 1 from if_neg kl9]; decide)
set_option maxHeartbeats 4000000 in
set_option maxRecDepth 100000 in
theorem qX6_dues (la : Launch) (hst : la.stackTraces = false) (g : EG) (lo : Nat) (ad : Nat → Nat → Nat) (σ : Sg) (u : Nat → Int64) (τ : Sg) (hI : INV σ) (hA : XA lo ad σ) (w9 : Int32) : vx_Met la yX6_dues wsX6_dues ({ frames := 8, cells := 1, slots := 6, locals := 142 } : Room) (va_Pc [.ref (ad 0 0), .int w9] (fun U => XR g ad σ u τ U.heap ∧ EV g lo U)) (QX (exOf 2 0 0 (t_dues w9)) (.returned (some (.long (f_dues σ w9 (nO σ)))))) (XX (exOf 2 0 0 (t_dues w9))) 1 6 (fun _ => False) := by
  refine vx_ofW (cc := cX6_dues) (maxL := 8) (ret := (some .long)) (by decide) rfl ?_
  intro p e s m args below meth c s₁ B hml ht hv
  obtain ⟨rfl, hX, hE⟩ := hv
  have hK := hE.1
  have hx := B.exec
  have hb := B.bytes
  have hr := B.returns
  have hts := atoms_spec (ws := wsX6_dues) B.pre
  have hown : s.vm.findClass RX6 = some m.cls := findClass_of_methodNamed B.named
  have hlocks := B.notSynchronized
  have hinX1 : ∀ w ∈ wsX10, w ∈ wsX6_dues := by decide +kernel
  have hinX6 : ∀ w ∈ wsX60, w ∈ wsX6_dues := by decide +kernel
  have lk17 := hts (.fieldLink RX6 17 "DyehouseLedger" "allOrders" "[LDyehouseLedger$Order;") (by decide +kernel)
  have lk260 := hts (.fieldLink RX6 260 "DyehouseLedger$Order" "customer" "I") (by decide +kernel)
  have hl := lv_entry ([.ref (ad 0 0), .int w9]) (n := 8) (Nat.le_of_ble_eq_true rfl)
  rw [lg_entry_eq]
  generalize (lg_sl ([.ref (ad 0 0), .int w9]) ++ List.replicate (8 - (lg_sl ([.ref (ad 0 0), .int w9])).length) Slot.unset).toArray = ls at hl ⊢
  have hl : lv_has ls 8 [(0, .ref (ad 0 0)), (1, .int w9)] := hl
  have hbL := hI.l.1
  have hbO := hI.o.1
  have hbV := hI.v.1
  refine lv_iload_n hx hb dX6_dues_0 rfl (lv_at hl 1 rfl) ?_
  refine xc_s (n := 1) (As := [.int w9]) (rest := []) (v := []) ⟨hx, hb, hml, hown, hts⟩ hE ht hlocks (fun q => by have h9 : ¬ (isP w9 0 3) := fun z => q (show eC w9 = 0 from if_pos z); exact (show (exOf 2 0 0 (t_dues w9)) = 2 from by rw [show (t_dues w9) = 1 from (by simp only [tD, tL, tV, tO, tW, tLV, tN, t_needs, t_plannedAt, t_shadeOf, t_dist, t_near, t_cell, t_byLight, t_dues, t_share, t_mean, okW]; (repeat' split) <;> first | rfl | contradiction | (exfalso; simp_all [-Int32.not_lt, -Int32.not_le]; done))]; rfl).trans (show eC w9 = 2 from if_neg h9).symm) (qX6_checkCustomer la hst g lo w9) gX6_dues_X6_checkCustomer rfl rfl rfl (by decide +kernel) ⟨Nat.le_of_ble_eq_true rfl, Nat.le_of_ble_eq_true rfl⟩ rfl hl.1 rfl (Nat.le_of_ble_eq_true rfl) dX6_dues_1 ⟨Nat.le_of_ble_eq_true rfl, Nat.le_of_ble_eq_true rfl⟩ ⟨Nat.le_of_ble_eq_true rfl, Nat.le_of_ble_eq_true rfl⟩ (fun _ => rfl) (fun h_2 => ?_)
  have kc_1 : isP w9 0 3 := Decidable.byContradiction fun z => absurd (show eC w9 = 0 from h_2) (by rw [show eC w9 = 2 from if_neg z]; decide)
  refine lv_lconst (v := 0) hx hb dX6_dues_4 (by decide) ?_
  refine lv_lstore_n (lv' := [(2, .long 0), (0, .ref (ad 0 0)), (1, .int w9)]) hx hb dX6_dues_5 rfl hl (by decide) rfl (fun ls hl => ?_)
  refine lv_aload_n hx hb dX6_dues_6 rfl (lv_at hl 1 rfl) ?_
  refine x_get (K := 0) (i := 0) (v := .ref (ad 2 0)) hx hb hts hinX6 hown hK hX (show 0 < 1 from Nat.zero_lt_one) 1 rfl rfl (by decide) rfl lk17 rfl dX6_dues_7 ?_
  refine lv_astore (lv' := [(4, .ref (ad 2 0)), (2, .long 0), (0, .ref (ad 0 0)), (1, .int w9)]) hx hb dX6_dues_10 hl (by decide) rfl (fun ls hl => ?_)
  refine lv_aload hx hb dX6_dues_12 (lv_at hl 0 rfl) ?_
  refine x_alen (K := 2) (t0 := 4) (v := 6) hx hb hK hX (show 0 < 1 from Nat.zero_lt_one) rfl rfl rfl dX6_dues_14 ?_
  refine lv_istore (lv' := [(5, .int 6), (4, .ref (ad 2 0)), (2, .long 0), (0, .ref (ad 0 0)), (1, .int w9)]) hx hb dX6_dues_15 hl (by decide) rfl (fun ls hl => ?_)
  refine lv_iconst (v := 0) hx hb dX6_dues_17 (by decide) ?_
  refine lv_istore (lv' := [(6, .int 0), (5, .int 6), (4, .ref (ad 2 0)), (2, .long 0), (0, .ref (ad 0 0)), (1, .int w9)]) hx hb dX6_dues_18 hl (by decide) rfl (fun ls hl => ?_)
  have lp20 : ∀ (n9 : Nat) (j : Nat), (j ≤ 6) → 6 - j < n9 → ∀ (ls : Array Slot), lv_has ls 8 [(0, .ref (ad 0 0)), (1, .int w9), (2, .long (cutO σ (fun y => if σ 9 y = w9 then (f_worth σ (nI y)).toInt64 else 0) j)), (4, .ref (ad 2 0)), (5, .int 6), (6, .int (nI j))] → W p la e ({ frames := 8, cells := 1, slots := 6, locals := 142 } : Room) s m ([.ref (ad 0 0), .int w9] : List Value).toArray below meth c s.heap [] 1 6 (vx_MQ below (QX (exOf 2 0 0 (t_dues w9)) (.returned (some (.long (f_dues σ w9 (nO σ)))))) (XX (exOf 2 0 0 (t_dues w9))) ([.ref (ad 0 0), .int w9] : List Value).toArray s 1 6 (fun _ => False)) (F0 m 20 ls []) := by
    intro n9_20
    induction n9_20 with
    | zero => intro j _ h9 ; exact absurd h9 (Nat.not_lt_zero _)
    | succ n9_20 ih_20 =>
      intro j hj h9 ls hl
      refine lv_iload hx hb dX6_dues_20 (lv_at hl 5 rfl) ?_
      refine lv_iload hx hb dX6_dues_22 (lv_at hl 4 rfl) ?_
      refine lv_icmp_ge (tgt := 64) hx hb dX6_dues_24 (by decide) (fun c_3 => ?_) (fun c_3 => ?_)
      · replace c_3 := Int32.not_lt.mpr c_3
        obtain rfl : j = 6 := ge6 hj c_3
        refine lv_lload_n hx hb dX6_dues_64 rfl (lv_at hl 2 rfl) ?_
        refine vx_ret ?_
        refine W.widen (k := 1) (n := 6) (Nat.le_of_ble_eq_true rfl) (Nat.le_of_ble_eq_true rfl) ?_
        exact W.lret (v := (cutO σ (fun y => if σ 9 y = w9 then (f_worth σ (nI y)).toInt64 else 0) 6)) hx hb hr (fun t ht9 hW => ⟨(show (exOf 2 0 0 (t_dues w9)) = 0 from by rw [show (t_dues w9) = 0 from (by simp only [tD, tL, tV, tO, tW, tLV, tN, t_needs, t_plannedAt, t_shadeOf, t_dist, t_near, t_cell, t_byLight, t_dues, t_share, t_mean, okW]; (repeat' split) <;> first | rfl | contradiction | (exfalso; simp_all [-Int32.not_lt, -Int32.not_le]; done))]; rfl), congrArg (fun z => Outcome.returned (some (Value.long z))) (duesNI hI w9), ht9⟩) (fun _ h => nomatch h) dX6_dues_65
      · replace c_3 := Int32.not_le.mp c_3
        have hj1 : j < 6 := lt6 hj c_3
        refine lv_aload hx hb dX6_dues_27 (lv_at hl 3 rfl) ?_
        refine lv_iload hx hb dX6_dues_29 (lv_at hl 5 rfl) ?_
        by_cases z_4 : j < nO σ
        · refine x_aald (K := 2) (t0 := 4) (C := RX1) (n := 6) (f := refA ad 15 (nO σ)) (j := (nI j)) (v := .ref (ad 15 j)) hx hb hK hX (show 0 < 1 from Nat.zero_lt_one) rfl rfl (vin_nI hj1 (by decide)) (by rw [(ti_nI (by omega))]; exact refA_in z_4) dX6_dues_31 ?_
          refine lv_astore (lv' := [(7, .ref (ad 15 j)), (0, .ref (ad 0 0)), (1, .int w9), (2, .long (cutO σ (fun y => if σ 9 y = w9 then (f_worth σ (nI y)).toInt64 else 0) j)), (4, .ref (ad 2 0)), (5, .int 6), (6, .int (nI j))]) hx hb dX6_dues_32 hl (by decide) rfl (fun ls hl => ?_)
          refine lv_aload hx hb dX6_dues_34 (lv_at hl 0 rfl) ?_
          refine lv_ifnull hx hb dX6_dues_36 ?_
          refine lv_aload hx hb dX6_dues_39 (lv_at hl 0 rfl) ?_
          refine x_get (K := 15) (i := j) (v := .int (σ 9 j)) hx hb hts hinX1 hown hK hX z_4 0 rfl rfl (by decide) rfl lk260 rfl dX6_dues_41 ?_
          refine lv_iload_n hx hb dX6_dues_44 rfl (lv_at hl 2 rfl) ?_
          refine lv_icmp_ne (tgt := 58) hx hb dX6_dues_45 (by decide) (fun c_5 => ?_) (fun c_5 => ?_)
          · refine lv_iinc (v := ((nI j) + 1)) (lv' := [(6, .int ((nI j) + 1)), (7, .ref (ad 15 j)), (0, .ref (ad 0 0)), (1, .int w9), (2, .long (cutO σ (fun y => if σ 9 y = w9 then (f_worth σ (nI y)).toInt64 else 0) j)), (4, .ref (ad 2 0)), (5, .int 6)]) hx hb dX6_dues_58 hl (k := 6) rfl rfl (by decide) rfl (fun ls hl => ?_)
            refine lv_goto (tgt := 20) hx hb dX6_dues_61 (by decide) ?_
            have e_6 : ((cutO σ (fun y => if σ 9 y = w9 then (f_worth σ (nI y)).toInt64 else 0) (j + 1)) : Int64) = (cutO σ (fun y => if σ 9 y = w9 then (f_worth σ (nI y)).toInt64 else 0) j) := (by first | rfl | (simp only [cutO_s]; (repeat' split) <;> first | rfl | contradiction | exact Int32.add_zero _ | exact Int64.add_zero _ | (exfalso; simp_all [-Int32.not_lt, -Int32.not_le]; done)) | (simp only [cutO_s]; simp_all [-Int32.not_lt, -Int32.not_le]; done))
            have e_7 : ((nI (j + 1)) : Int32) = ((nI j) + 1) := (nI_1 j).symm
            have hl2 : lv_has ls 8 [(0, .ref (ad 0 0)), (1, .int w9), (2, .long (cutO σ (fun y => if σ 9 y = w9 then (f_worth σ (nI y)).toInt64 else 0) (j + 1))), (4, .ref (ad 2 0)), (5, .int 6), (6, .int (nI (j + 1)))] := by
              rw [e_6, e_7]
              exact lv_sub hl [2, 3, 4, 5, 6, 0] rfl
            exact ih_20 (j + 1) (by omega) (by omega) ls hl2
          · refine lv_lload_n hx hb dX6_dues_48 rfl (lv_at hl 3 rfl) ?_
            refine lv_aload_n hx hb dX6_dues_49 rfl (lv_at hl 1 rfl) ?_
            refine lv_aload hx hb dX6_dues_50 (lv_at hl 0 rfl) ?_
            refine xc_ro (n := 1) (K := 0) (i := 0) (As := [.ref (ad 15 j)]) (rest := [.long (cutO σ (fun y => if σ 9 y = w9 then (f_worth σ (nI y)).toInt64 else 0) j)]) (v := [.int (f_worth σ (nI j))]) ⟨hx, hb, hml, hown, hts⟩ hK hX (show 0 < 1 from Nat.zero_lt_one) rfl rfl (qX6_amountDue la g ad σ u τ hI lo hA j z_4) gX6_dues_X6_amountDue rfl rfl rfl (by decide +kernel) ⟨Nat.le_of_ble_eq_true rfl, Nat.le_of_ble_eq_true rfl⟩ rfl hl.1 rfl (Nat.le_of_ble_eq_true rfl) dX6_dues_52 ⟨Nat.le_of_ble_eq_true rfl, Nat.le_of_ble_eq_true rfl⟩ rfl ?_
            refine lv_i2l hx hb dX6_dues_55 rfl ?_
            refine lv_ladd hx hb dX6_dues_56 ?_
            refine lv_lstore_n (lv' := [(2, .long ((cutO σ (fun y => if σ 9 y = w9 then (f_worth σ (nI y)).toInt64 else 0) j) + (f_worth σ (nI j)).toInt64)), (7, .ref (ad 15 j)), (0, .ref (ad 0 0)), (1, .int w9), (4, .ref (ad 2 0)), (5, .int 6), (6, .int (nI j))]) hx hb dX6_dues_57 rfl hl (by decide) rfl (fun ls hl => ?_)
            refine lv_iinc (v := ((nI j) + 1)) (lv' := [(6, .int ((nI j) + 1)), (2, .long ((cutO σ (fun y => if σ 9 y = w9 then (f_worth σ (nI y)).toInt64 else 0) j) + (f_worth σ (nI j)).toInt64)), (7, .ref (ad 15 j)), (0, .ref (ad 0 0)), (1, .int w9), (4, .ref (ad 2 0)), (5, .int 6)]) hx hb dX6_dues_58 hl (k := 6) rfl rfl (by decide) rfl (fun ls hl => ?_)
            refine lv_goto (tgt := 20) hx hb dX6_dues_61 (by decide) ?_
            have e_8 : ((cutO σ (fun y => if σ 9 y = w9 then (f_worth σ (nI y)).toInt64 else 0) (j + 1)) : Int64) = ((cutO σ (fun y => if σ 9 y = w9 then (f_worth σ (nI y)).toInt64 else 0) j) + (f_worth σ (nI j)).toInt64) := (by first | rfl | (simp only [cutO_s]; (repeat' split) <;> first | rfl | contradiction | exact Int32.add_zero _ | exact Int64.add_zero _ | (exfalso; simp_all [-Int32.not_lt, -Int32.not_le]; done)) | (simp only [cutO_s]; simp_all [-Int32.not_lt, -Int32.not_le]; done))
            have e_9 : ((nI (j + 1)) : Int32) = ((nI j) + 1) := (nI_1 j).symm
            have hl2 : lv_has ls 8 [(0, .ref (ad 0 0)), (1, .int w9), (2, .long (cutO σ (fun y => if σ 9 y = w9 then (f_worth σ (nI y)).toInt64 else 0) (j + 1))), (4, .ref (ad 2 0)), (5, .int 6), (6, .int (nI (j + 1)))] := by
              rw [e_8, e_9]
              exact lv_sub hl [3, 4, 1, 5, 6, 0] rfl
            exact ih_20 (j + 1) (by omega) (by omega) ls hl2
        · refine x_aald (K := 2) (t0 := 4) (C := RX1) (n := 6) (f := refA ad 15 (nO σ)) (j := (nI j)) (v := .null) hx hb hK hX (show 0 < 1 from Nat.zero_lt_one) rfl rfl (vin_nI hj1 (by decide)) (by rw [(ti_nI (by omega))]; exact refA_no z_4) dX6_dues_31 ?_
          refine lv_astoreN (lv' := [(7, .null), (0, .ref (ad 0 0)), (1, .int w9), (2, .long (cutO σ (fun y => if σ 9 y = w9 then (f_worth σ (nI y)).toInt64 else 0) j)), (4, .ref (ad 2 0)), (5, .int 6), (6, .int (nI j))]) hx hb dX6_dues_32 hl (by decide) rfl (fun ls hl => ?_)
          refine lv_aloadN hx hb dX6_dues_34 (lv_at hl 0 rfl) ?_
          refine lv_ifnullN (tgt := 58) hx hb dX6_dues_36 (by decide) ?_
          refine lv_iinc (v := ((nI j) + 1)) (lv' := [(6, .int ((nI j) + 1)), (7, .null), (0, .ref (ad 0 0)), (1, .int w9), (2, .long (cutO σ (fun y => if σ 9 y = w9 then (f_worth σ (nI y)).toInt64 else 0) j)), (4, .ref (ad 2 0)), (5, .int 6)]) hx hb dX6_dues_58 hl (k := 6) rfl rfl (by decide) rfl (fun ls hl => ?_)
          refine lv_goto (tgt := 20) hx hb dX6_dues_61 (by decide) ?_
          have e_10 : ((cutO σ (fun y => if σ 9 y = w9 then (f_worth σ (nI y)).toInt64 else 0) (j + 1)) : Int64) = (cutO σ (fun y => if σ 9 y = w9 then (f_worth σ (nI y)).toInt64 else 0) j) := (by first | rfl | (simp only [cutO_s]; (repeat' split) <;> first | rfl | contradiction | exact Int32.add_zero _ | exact Int64.add_zero _ | (exfalso; simp_all [-Int32.not_lt, -Int32.not_le]; done)) | (simp only [cutO_s]; simp_all [-Int32.not_lt, -Int32.not_le]; done))
          have e_11 : ((nI (j + 1)) : Int32) = ((nI j) + 1) := (nI_1 j).symm
          have hl2 : lv_has ls 8 [(0, .ref (ad 0 0)), (1, .int w9), (2, .long (cutO σ (fun y => if σ 9 y = w9 then (f_worth σ (nI y)).toInt64 else 0) (j + 1))), (4, .ref (ad 2 0)), (5, .int 6), (6, .int (nI (j + 1)))] := by
            rw [e_10, e_11]
            exact lv_sub hl [2, 3, 4, 5, 6, 0] rfl
          exact ih_20 (j + 1) (by omega) (by omega) ls hl2
  have e_12 : ((cutO σ (fun y => if σ 9 y = w9 then (f_worth σ (nI y)).toInt64 else 0) (0)) : Int64) = 0 := (by first | rfl | (simp only [cutO_s]; (repeat' split) <;> first | rfl | contradiction | exact Int32.add_zero _ | exact Int64.add_zero _ | (exfalso; simp_all [-Int32.not_lt, -Int32.not_le]; done)) | (simp only [cutO_s]; simp_all [-Int32.not_lt, -Int32.not_le]; done))
  have e_13 : ((nI (0)) : Int32) = 0 := (by first | rfl | (simp only [cutO_s]; (repeat' split) <;> first | rfl | contradiction | exact Int32.add_zero _ | exact Int64.add_zero _ | (exfalso; simp_all [-Int32.not_lt, -Int32.not_le]; done)) | (simp only [cutO_s]; simp_all [-Int32.not_lt, -Int32.not_le]; done))
  have hl2 : lv_has ls 8 [(0, .ref (ad 0 0)), (1, .int w9), (2, .long (cutO σ (fun y => if σ 9 y = w9 then (f_worth σ (nI y)).toInt64 else 0) (0))), (4, .ref (ad 2 0)), (5, .int 6), (6, .int (nI (0)))] := by
    rw [e_12, e_13]
    exact lv_sub hl [4, 5, 3, 2, 1, 0] rfl
  exact lp20 (6 - 0 + 1) (0) (Nat.zero_le _) (Nat.lt_succ_self _) ls hl2
theorem tw_inX6_passedShare_6 : ∀ w ∈ (vx_at0 RX6 265 (en 6) exN).filter goodWord, w ∈ wsX6_passedShare := by decide +kernel
set_option maxHeartbeats 4000000 in
set_option maxRecDepth 100000 in
theorem qX6_passedShare (la : Launch) (hst : la.stackTraces = false) (g : EG) (lo : Nat) (ad : Nat → Nat → Nat) (σ : Sg) (u : Nat → Int64) (τ : Sg) (hI : INV σ) (hA : XA lo ad σ) : vx_Met la yX6_passedShare wsX6_passedShare ({ frames := 6, cells := 1, slots := 6, locals := 100 } : Room) (va_Pc [.ref (ad 0 0)] (fun U => XR g ad σ u τ U.heap ∧ EV g lo U)) (QX (exOf 6 0 0 (t_share σ)) (.returned (some (.float (f_share σ))))) (XX (exOf 6 0 0 (t_share σ))) 1 6 (fun _ => False) := by
  refine vx_ofW (cc := cX6_passedShare) (maxL := 3) (ret := (some .float)) (by decide) rfl ?_
  intro p e s m args below meth c s₁ B hml ht hv
  obtain ⟨rfl, hX, hE⟩ := hv
  have hK := hE.1
  have hx := B.exec
  have hb := B.bytes
  have hr := B.returns
  have hts := atoms_spec (ws := wsX6_passedShare) B.pre
  have hown : s.vm.findClass RX6 = some m.cls := findClass_of_methodNamed B.named
  have hlocks := B.notSynchronized
  have ti6 := hts (.initialized "java/lang/ArithmeticException") (by decide +kernel)
  have tk6 := hts (.classLink RX6 263 "java/lang/ArithmeticException") (by decide +kernel)
  have tw6 : ∀ w ∈ (vx_at0 RX6 265 (en 6) exN).filter goodWord, w.before _ s = true := fun w h => hts w (tw_inX6_passedShare_6 w h)
  have hl := lv_entry ([.ref (ad 0 0)]) (n := 3) (Nat.le_of_ble_eq_true rfl)
  rw [lg_entry_eq]
  generalize (lg_sl ([.ref (ad 0 0)]) ++ List.replicate (3 - (lg_sl ([.ref (ad 0 0)])).length) Slot.unset).toArray = ls at hl ⊢
  have hl : lv_has ls 3 [(0, .ref (ad 0 0))] := hl
  have hbL := hI.l.1
  have hbO := hI.o.1
  have hbV := hI.v.1
  refine lv_aload_n hx hb dX6_passedShare_0 rfl (lv_at hl 0 rfl) ?_
  refine lv_bipush (v := 112) hx hb dX6_passedShare_1 (by decide) ?_
  refine xc_ro (n := 1) (K := 0) (i := 0) (As := [.int 112]) (rest := []) (v := [.int (c_st σ 112 (nL σ))]) ⟨hx, hb, hml, hown, hts⟩ hK hX (show 0 < 1 from Nat.zero_lt_one) rfl rfl (qX6_lotsInState la g ad σ u τ hI 112) gX6_passedShare_X6_lotsInState rfl rfl rfl (by decide +kernel) ⟨Nat.le_of_ble_eq_true rfl, Nat.le_of_ble_eq_true rfl⟩ rfl hl.1 rfl (Nat.le_of_ble_eq_true rfl) dX6_passedShare_3 ⟨Nat.zero_le _, Nat.zero_le _⟩ rfl ?_
  refine lv_istore_n (lv' := [(1, .int (c_st σ 112 (nL σ))), (0, .ref (ad 0 0))]) hx hb dX6_passedShare_6 rfl hl (by decide) rfl (fun ls hl => ?_)
  refine lv_iload_n hx hb dX6_passedShare_7 rfl (lv_at hl 0 rfl) ?_
  refine lv_aload_n hx hb dX6_passedShare_8 rfl (lv_at hl 1 rfl) ?_
  refine lv_bipush (v := 120) hx hb dX6_passedShare_9 (by decide) ?_
  refine xc_ro (n := 1) (K := 0) (i := 0) (As := [.int 120]) (rest := [.int (c_st σ 112 (nL σ))]) (v := [.int (c_st σ 120 (nL σ))]) ⟨hx, hb, hml, hown, hts⟩ hK hX (show 0 < 1 from Nat.zero_lt_one) rfl rfl (qX6_lotsInState la g ad σ u τ hI 120) gX6_passedShare_X6_lotsInState rfl rfl rfl (by decide +kernel) ⟨Nat.le_of_ble_eq_true rfl, Nat.le_of_ble_eq_true rfl⟩ rfl hl.1 rfl (Nat.le_of_ble_eq_true rfl) dX6_passedShare_11 ⟨Nat.zero_le _, Nat.zero_le _⟩ rfl ?_
  refine lv_iadd hx hb dX6_passedShare_14 ?_
  refine lv_istore_n (lv' := [(2, .int ((c_st σ 112 (nL σ)) + (c_st σ 120 (nL σ)))), (1, .int (c_st σ 112 (nL σ))), (0, .ref (ad 0 0))]) hx hb dX6_passedShare_15 rfl hl (by decide) rfl (fun ls hl => ?_)
  refine lv_iload_n hx hb dX6_passedShare_16 rfl (lv_at hl 0 rfl) ?_
  refine lv_if_ne (tgt := 28) hx hb dX6_passedShare_17 (by decide) (fun c_1 => ?_) (fun c_1 => ?_)
  · refine lv_iload_n hx hb dX6_passedShare_28 rfl (lv_at hl 1 rfl) ?_
    refine lv_i2f hx hb dX6_passedShare_29 ?_
    refine lv_iload_n hx hb dX6_passedShare_30 rfl (lv_at hl 0 rfl) ?_
    refine lv_i2f hx hb dX6_passedShare_31 ?_
    refine lv_fdiv hx hb dX6_passedShare_32 (share_n hI (by assumption)) ?_
    refine vx_ret ?_
    refine W.widen (k := 1) (n := 6) (Nat.le_of_ble_eq_true rfl) (Nat.le_of_ble_eq_true rfl) ?_
    exact W.fret (v := (FP.fdiv (FP.i2f (c_st σ 112 (nL σ))) (FP.i2f ((c_st σ 112 (nL σ)) + (c_st σ 120 (nL σ)))))) hx hb hr (fun t ht9 hW => ⟨(show (exOf 6 0 0 (t_share σ)) = 0 from by rw [show (t_share σ) = 0 from (by simp only [tD, tL, tV, tO, tW, tLV, tN, t_needs, t_plannedAt, t_shadeOf, t_dist, t_near, t_cell, t_byLight, t_dues, t_share, t_mean, okW]; (repeat' split) <;> first | rfl | contradiction | (exfalso; simp_all [-Int32.not_lt, -Int32.not_le]; done))]; rfl), congrArg (fun z => Outcome.returned (some (Value.float z))) rfl, ht9⟩) (fun _ h => nomatch h) dX6_passedShare_33
  · exact x_throw (k9 := 6) (ic := 265) hx hb hst hown hE ht hlocks (hl.1.trans hml.symm) (fun _ _ _ => trivial) (by decide) tk6 ti6 tw6 bad6 good6 (by decide) (show (exOf 6 0 0 (t_share σ)) = 6 from by rw [show (t_share σ) = 1 from (by simp only [tD, tL, tV, tO, tW, tLV, tN, t_needs, t_plannedAt, t_shadeOf, t_dist, t_near, t_cell, t_byLight, t_dues, t_share, t_mean, okW]; (repeat' split) <;> first | rfl | contradiction | (exfalso; simp_all [-Int32.not_lt, -Int32.not_le]; done))]; rfl) dX6_passedShare_20 dX6_passedShare_23 dX6_passedShare_24 dX6_passedShare_27 (Nat.le_of_ble_eq_true rfl) (Nat.le_of_ble_eq_true rfl) (Nat.le_of_ble_eq_true rfl) (Nat.le_of_ble_eq_true rfl) (Nat.le_of_ble_eq_true rfl) (Nat.le_of_ble_eq_true rfl)
theorem tw_inX6_meanOff_6 : ∀ w ∈ (vx_at0 RX6 265 (en 6) exN).filter goodWord, w ∈ wsX6_meanOff := by decide +kernel
set_option maxHeartbeats 4000000 in
set_option maxRecDepth 100000 in
theorem qX6_meanOff (la : Launch) (hst : la.stackTraces = false) (g : EG) (lo : Nat) (ad : Nat → Nat → Nat) (σ : Sg) (u : Nat → Int64) (τ : Sg) (hI : INV σ) (hA : XA lo ad σ) : vx_Met la yX6_meanOff wsX6_meanOff ({ frames := 6, cells := 1, slots := 6, locals := 100 } : Room) (va_Pc [.ref (ad 0 0)] (fun U => XR g ad σ u τ U.heap ∧ EV g lo U)) (QX (exOf 6 0 0 (t_mean σ)) (.returned (some (.double (f_mean σ))))) (XX (exOf 6 0 0 (t_mean σ))) 1 6 (fun _ => False) := by
  refine vx_ofW (cc := cX6_meanOff) (maxL := 7) (ret := (some .double)) (by decide) rfl ?_
  intro p e s m args below meth c s₁ B hml ht hv
  obtain ⟨rfl, hX, hE⟩ := hv
  have hK := hE.1
  have hx := B.exec
  have hb := B.bytes
  have hr := B.returns
  have hts := atoms_spec (ws := wsX6_meanOff) B.pre
  have hown : s.vm.findClass RX6 = some m.cls := findClass_of_methodNamed B.named
  have hlocks := B.notSynchronized
  have hinX0 : ∀ w ∈ wsX00, w ∈ wsX6_meanOff := by decide +kernel
  have hinX6 : ∀ w ∈ wsX60, w ∈ wsX6_meanOff := by decide +kernel
  have lk147 := hts (.fieldLink RX6 147 "DyehouseLedger$Lot" "state" "C") (by decide +kernel)
  have lk23 := hts (.fieldLink RX6 23 "DyehouseLedger" "allLots" "[LDyehouseLedger$Lot;") (by decide +kernel)
  have ti6 := hts (.initialized "java/lang/ArithmeticException") (by decide +kernel)
  have tk6 := hts (.classLink RX6 263 "java/lang/ArithmeticException") (by decide +kernel)
  have tw6 : ∀ w ∈ (vx_at0 RX6 265 (en 6) exN).filter goodWord, w.before _ s = true := fun w h => hts w (tw_inX6_meanOff_6 w h)
  have hl := lv_entry ([.ref (ad 0 0)]) (n := 7) (Nat.le_of_ble_eq_true rfl)
  rw [lg_entry_eq]
  generalize (lg_sl ([.ref (ad 0 0)]) ++ List.replicate (7 - (lg_sl ([.ref (ad 0 0)])).length) Slot.unset).toArray = ls at hl ⊢
  have hl : lv_has ls 7 [(0, .ref (ad 0 0))] := hl
  have hbL := hI.l.1
  have hbO := hI.o.1
  have hbV := hI.v.1
  refine lv_iconst (v := 0) hx hb dX6_meanOff_0 (by decide) ?_
  refine lv_istore_n (lv' := [(1, .int 0), (0, .ref (ad 0 0))]) hx hb dX6_meanOff_1 rfl hl (by decide) rfl (fun ls hl => ?_)
  refine lv_iconst (v := 0) hx hb dX6_meanOff_2 (by decide) ?_
  refine lv_istore_n (lv' := [(2, .int 0), (1, .int 0), (0, .ref (ad 0 0))]) hx hb dX6_meanOff_3 rfl hl (by decide) rfl (fun ls hl => ?_)
  refine lv_aload_n hx hb dX6_meanOff_4 rfl (lv_at hl 2 rfl) ?_
  refine x_get (K := 0) (i := 0) (v := .ref (ad 3 0)) hx hb hts hinX6 hown hK hX (show 0 < 1 from Nat.zero_lt_one) 2 rfl rfl (by decide) rfl lk23 rfl dX6_meanOff_5 ?_
  refine lv_astore_n (lv' := [(3, .ref (ad 3 0)), (2, .int 0), (1, .int 0), (0, .ref (ad 0 0))]) hx hb dX6_meanOff_8 rfl hl (by decide) rfl (fun ls hl => ?_)
  refine lv_aload_n hx hb dX6_meanOff_9 rfl (lv_at hl 0 rfl) ?_
  refine x_alen (K := 3) (t0 := 3) (v := 24) hx hb hK hX (show 0 < 1 from Nat.zero_lt_one) rfl rfl rfl dX6_meanOff_10 ?_
  refine lv_istore (lv' := [(4, .int 24), (3, .ref (ad 3 0)), (2, .int 0), (1, .int 0), (0, .ref (ad 0 0))]) hx hb dX6_meanOff_11 hl (by decide) rfl (fun ls hl => ?_)
  refine lv_iconst (v := 0) hx hb dX6_meanOff_13 (by decide) ?_
  refine lv_istore (lv' := [(5, .int 0), (4, .int 24), (3, .ref (ad 3 0)), (2, .int 0), (1, .int 0), (0, .ref (ad 0 0))]) hx hb dX6_meanOff_14 hl (by decide) rfl (fun ls hl => ?_)
  have lp16 : ∀ (n9 : Nat) (j : Nat), (j ≤ 24) → 24 - j < n9 → ∀ (ls : Array Slot), lv_has ls 7 [(0, .ref (ad 0 0)), (1, .int (cutN σ (fun y => if σ 21 y = 119 then 0 else f_off σ (nI y)) j)), (2, .int (cutN σ (fun y => if σ 21 y = 119 then 0 else 1) j)), (3, .ref (ad 3 0)), (4, .int 24), (5, .int (nI j))] → W p la e ({ frames := 6, cells := 1, slots := 6, locals := 100 } : Room) s m ([.ref (ad 0 0)] : List Value).toArray below meth c s.heap [] 0 0 (vx_MQ below (QX (exOf 6 0 0 (t_mean σ)) (.returned (some (.double (f_mean σ))))) (XX (exOf 6 0 0 (t_mean σ))) ([.ref (ad 0 0)] : List Value).toArray s 1 6 (fun _ => False)) (F0 m 16 ls []) := by
    intro n9_16
    induction n9_16 with
    | zero => intro j _ h9 ; exact absurd h9 (Nat.not_lt_zero _)
    | succ n9_16 ih_16 =>
      intro j hj h9 ls hl
      refine lv_iload hx hb dX6_meanOff_16 (lv_at hl 5 rfl) ?_
      refine lv_iload hx hb dX6_meanOff_18 (lv_at hl 4 rfl) ?_
      refine lv_icmp_ge (tgt := 61) hx hb dX6_meanOff_20 (by decide) (fun c_1 => ?_) (fun c_1 => ?_)
      · replace c_1 := Int32.not_lt.mpr c_1
        obtain rfl : j = 24 := ge24 hj c_1
        rw [soffNI hI, cnwNI hI] at hl
        refine lv_iload_n hx hb dX6_meanOff_61 rfl (lv_at hl 2 rfl) ?_
        refine lv_if_ne (tgt := 73) hx hb dX6_meanOff_62 (by decide) (fun c_2 => ?_) (fun c_2 => ?_)
        · refine lv_iload_n hx hb dX6_meanOff_73 rfl (lv_at hl 1 rfl) ?_
          refine lv_i2d hx hb dX6_meanOff_74 ?_
          refine lv_iload_n hx hb dX6_meanOff_75 rfl (lv_at hl 2 rfl) ?_
          refine lv_i2d hx hb dX6_meanOff_76 ?_
          refine lv_ddiv hx hb dX6_meanOff_77 (mean_n hI (by assumption)) ?_
          refine vx_ret ?_
          refine W.widen (k := 1) (n := 6) (Nat.le_of_ble_eq_true rfl) (Nat.le_of_ble_eq_true rfl) ?_
          exact W.dret (v := (FP.ddiv (FP.i2d (s_off σ (nL σ))) (FP.i2d (c_nw σ (nL σ))))) hx hb hr (fun t ht9 hW => ⟨(show (exOf 6 0 0 (t_mean σ)) = 0 from by rw [show (t_mean σ) = 0 from (by simp only [tD, tL, tV, tO, tW, tLV, tN, t_needs, t_plannedAt, t_shadeOf, t_dist, t_near, t_cell, t_byLight, t_dues, t_share, t_mean, okW]; (repeat' split) <;> first | rfl | contradiction | (exfalso; simp_all [-Int32.not_lt, -Int32.not_le]; done))]; rfl), congrArg (fun z => Outcome.returned (some (Value.double z))) rfl, ht9⟩) (fun _ h => nomatch h) dX6_meanOff_78
        · exact x_throw (k9 := 6) (ic := 265) hx hb hst hown hE ht hlocks (hl.1.trans hml.symm) (fun _ _ _ => trivial) (by decide) tk6 ti6 tw6 bad6 good6 (by decide) (show (exOf 6 0 0 (t_mean σ)) = 6 from by rw [show (t_mean σ) = 1 from (by simp only [tD, tL, tV, tO, tW, tLV, tN, t_needs, t_plannedAt, t_shadeOf, t_dist, t_near, t_cell, t_byLight, t_dues, t_share, t_mean, okW]; (repeat' split) <;> first | rfl | contradiction | (exfalso; simp_all [-Int32.not_lt, -Int32.not_le]; done))]; rfl) dX6_meanOff_65 dX6_meanOff_68 dX6_meanOff_69 dX6_meanOff_72 (Nat.le_of_ble_eq_true rfl) (Nat.le_of_ble_eq_true rfl) (Nat.le_of_ble_eq_true rfl) (Nat.le_of_ble_eq_true rfl) (Nat.le_of_ble_eq_true rfl) (Nat.le_of_ble_eq_true rfl)
      · replace c_1 := Int32.not_le.mp c_1
        have hj1 : j < 24 := lt24 hj c_1
        refine lv_aload_n hx hb dX6_meanOff_23 rfl (lv_at hl 3 rfl) ?_
        refine lv_iload hx hb dX6_meanOff_24 (lv_at hl 5 rfl) ?_
        by_cases z_3 : j < nL σ
        · refine x_aald (K := 3) (t0 := 3) (C := RX0) (n := 24) (f := refA ad 16 (nL σ)) (j := (nI j)) (v := .ref (ad 16 j)) hx hb hK hX (show 0 < 1 from Nat.zero_lt_one) rfl rfl (vin_nI hj1 (by decide)) (by rw [(ti_nI (by omega))]; exact refA_in z_3) dX6_meanOff_26 ?_
          refine lv_astore (lv' := [(6, .ref (ad 16 j)), (0, .ref (ad 0 0)), (1, .int (cutN σ (fun y => if σ 21 y = 119 then 0 else f_off σ (nI y)) j)), (2, .int (cutN σ (fun y => if σ 21 y = 119 then 0 else 1) j)), (3, .ref (ad 3 0)), (4, .int 24), (5, .int (nI j))]) hx hb dX6_meanOff_27 hl (by decide) rfl (fun ls hl => ?_)
          refine lv_aload hx hb dX6_meanOff_29 (lv_at hl 0 rfl) ?_
          refine lv_ifnull hx hb dX6_meanOff_31 ?_
          refine lv_aload hx hb dX6_meanOff_34 (lv_at hl 0 rfl) ?_
          refine x_get (K := 16) (i := j) (v := .int (σ 21 j)) hx hb hts hinX0 hown hK hX z_3 4 rfl rfl (by decide) rfl lk147 rfl dX6_meanOff_36 ?_
          refine lv_bipush (v := 119) hx hb dX6_meanOff_39 (by decide) ?_
          refine lv_icmp_eq (tgt := 55) hx hb dX6_meanOff_41 (by decide) (fun c_4 => ?_) (fun c_4 => ?_)
          · refine lv_iinc (v := ((nI j) + 1)) (lv' := [(5, .int ((nI j) + 1)), (6, .ref (ad 16 j)), (0, .ref (ad 0 0)), (1, .int (cutN σ (fun y => if σ 21 y = 119 then 0 else f_off σ (nI y)) j)), (2, .int (cutN σ (fun y => if σ 21 y = 119 then 0 else 1) j)), (3, .ref (ad 3 0)), (4, .int 24)]) hx hb dX6_meanOff_55 hl (k := 6) rfl rfl (by decide) rfl (fun ls hl => ?_)
            refine lv_goto (tgt := 16) hx hb dX6_meanOff_58 (by decide) ?_
            have e_5 : ((cutN σ (fun y => if σ 21 y = 119 then 0 else f_off σ (nI y)) (j + 1)) : Int32) = (cutN σ (fun y => if σ 21 y = 119 then 0 else f_off σ (nI y)) j) := (by first | rfl | (simp only [cutN_s]; (repeat' split) <;> first | rfl | contradiction | exact Int32.add_zero _ | exact Int64.add_zero _ | (exfalso; simp_all [-Int32.not_lt, -Int32.not_le]; done)) | (simp only [cutN_s]; simp_all [-Int32.not_lt, -Int32.not_le]; done))
            have e_6 : ((cutN σ (fun y => if σ 21 y = 119 then 0 else 1) (j + 1)) : Int32) = (cutN σ (fun y => if σ 21 y = 119 then 0 else 1) j) := (by first | rfl | (simp only [cutN_s]; (repeat' split) <;> first | rfl | contradiction | exact Int32.add_zero _ | exact Int64.add_zero _ | (exfalso; simp_all [-Int32.not_lt, -Int32.not_le]; done)) | (simp only [cutN_s]; simp_all [-Int32.not_lt, -Int32.not_le]; done))
            have e_7 : ((nI (j + 1)) : Int32) = ((nI j) + 1) := (nI_1 j).symm
            have hl2 : lv_has ls 7 [(0, .ref (ad 0 0)), (1, .int (cutN σ (fun y => if σ 21 y = 119 then 0 else f_off σ (nI y)) (j + 1))), (2, .int (cutN σ (fun y => if σ 21 y = 119 then 0 else 1) (j + 1))), (3, .ref (ad 3 0)), (4, .int 24), (5, .int (nI (j + 1)))] := by
              rw [e_5, e_6, e_7]
              exact lv_sub hl [2, 3, 4, 5, 6, 0] rfl
            exact ih_16 (j + 1) (by omega) (by omega) ls hl2
          · refine lv_iload_n hx hb dX6_meanOff_44 rfl (lv_at hl 2 rfl) ?_
            refine lv_aload hx hb dX6_meanOff_45 (lv_at hl 0 rfl) ?_
            refine xc_ro (n := 0) (K := 16) (i := j) (As := []) (rest := [.int (cutN σ (fun y => if σ 21 y = 119 then 0 else f_off σ (nI y)) j)]) (v := [.int (f_off σ (nI j))]) ⟨hx, hb, hml, hown, hts⟩ hK hX z_3 rfl rfl (qX0_distanceFromRecipe la g ad σ u τ hI j z_3) gX6_meanOff_X0_distanceFromRecipe rfl rfl rfl (by decide +kernel) ⟨Nat.le_of_ble_eq_true rfl, Nat.le_of_ble_eq_true rfl⟩ rfl hl.1 rfl (Nat.le_of_ble_eq_true rfl) dX6_meanOff_47 ⟨Nat.zero_le _, Nat.zero_le _⟩ rfl ?_
            refine lv_iadd hx hb dX6_meanOff_50 ?_
            refine lv_istore_n (lv' := [(1, .int ((cutN σ (fun y => if σ 21 y = 119 then 0 else f_off σ (nI y)) j) + (f_off σ (nI j)))), (6, .ref (ad 16 j)), (0, .ref (ad 0 0)), (2, .int (cutN σ (fun y => if σ 21 y = 119 then 0 else 1) j)), (3, .ref (ad 3 0)), (4, .int 24), (5, .int (nI j))]) hx hb dX6_meanOff_51 rfl hl (by decide) rfl (fun ls hl => ?_)
            refine lv_iinc (v := ((cutN σ (fun y => if σ 21 y = 119 then 0 else 1) j) + 1)) (lv' := [(2, .int ((cutN σ (fun y => if σ 21 y = 119 then 0 else 1) j) + 1)), (1, .int ((cutN σ (fun y => if σ 21 y = 119 then 0 else f_off σ (nI y)) j) + (f_off σ (nI j)))), (6, .ref (ad 16 j)), (0, .ref (ad 0 0)), (3, .ref (ad 3 0)), (4, .int 24), (5, .int (nI j))]) hx hb dX6_meanOff_52 hl (k := 3) rfl rfl (by decide) rfl (fun ls hl => ?_)
            refine lv_iinc (v := ((nI j) + 1)) (lv' := [(5, .int ((nI j) + 1)), (2, .int ((cutN σ (fun y => if σ 21 y = 119 then 0 else 1) j) + 1)), (1, .int ((cutN σ (fun y => if σ 21 y = 119 then 0 else f_off σ (nI y)) j) + (f_off σ (nI j)))), (6, .ref (ad 16 j)), (0, .ref (ad 0 0)), (3, .ref (ad 3 0)), (4, .int 24)]) hx hb dX6_meanOff_55 hl (k := 6) rfl rfl (by decide) rfl (fun ls hl => ?_)
            refine lv_goto (tgt := 16) hx hb dX6_meanOff_58 (by decide) ?_
            have e_8 : ((cutN σ (fun y => if σ 21 y = 119 then 0 else f_off σ (nI y)) (j + 1)) : Int32) = ((cutN σ (fun y => if σ 21 y = 119 then 0 else f_off σ (nI y)) j) + (f_off σ (nI j))) := (by first | rfl | (simp only [cutN_s]; (repeat' split) <;> first | rfl | contradiction | exact Int32.add_zero _ | exact Int64.add_zero _ | (exfalso; simp_all [-Int32.not_lt, -Int32.not_le]; done)) | (simp only [cutN_s]; simp_all [-Int32.not_lt, -Int32.not_le]; done))
            have e_9 : ((cutN σ (fun y => if σ 21 y = 119 then 0 else 1) (j + 1)) : Int32) = ((cutN σ (fun y => if σ 21 y = 119 then 0 else 1) j) + 1) := (by first | rfl | (simp only [cutN_s]; (repeat' split) <;> first | rfl | contradiction | exact Int32.add_zero _ | exact Int64.add_zero _ | (exfalso; simp_all [-Int32.not_lt, -Int32.not_le]; done)) | (simp only [cutN_s]; simp_all [-Int32.not_lt, -Int32.not_le]; done))
            have e_10 : ((nI (j + 1)) : Int32) = ((nI j) + 1) := (nI_1 j).symm
            have hl2 : lv_has ls 7 [(0, .ref (ad 0 0)), (1, .int (cutN σ (fun y => if σ 21 y = 119 then 0 else f_off σ (nI y)) (j + 1))), (2, .int (cutN σ (fun y => if σ 21 y = 119 then 0 else 1) (j + 1))), (3, .ref (ad 3 0)), (4, .int 24), (5, .int (nI (j + 1)))] := by
              rw [e_8, e_9, e_10]
              exact lv_sub hl [4, 2, 1, 5, 6, 0] rfl
            exact ih_16 (j + 1) (by omega) (by omega) ls hl2
        · refine x_aald (K := 3) (t0 := 3) (C := RX0) (n := 24) (f := refA ad 16 (nL σ)) (j := (nI j)) (v := .null) hx hb hK hX (show 0 < 1 from Nat.zero_lt_one) rfl rfl (vin_nI hj1 (by decide)) (by rw [(ti_nI (by omega))]; exact refA_no z_3) dX6_meanOff_26 ?_
          refine lv_astoreN (lv' := [(6, .null), (0, .ref (ad 0 0)), (1, .int (cutN σ (fun y => if σ 21 y = 119 then 0 else f_off σ (nI y)) j)), (2, .int (cutN σ (fun y => if σ 21 y = 119 then 0 else 1) j)), (3, .ref (ad 3 0)), (4, .int 24), (5, .int (nI j))]) hx hb dX6_meanOff_27 hl (by decide) rfl (fun ls hl => ?_)
          refine lv_aloadN hx hb dX6_meanOff_29 (lv_at hl 0 rfl) ?_
          refine lv_ifnullN (tgt := 55) hx hb dX6_meanOff_31 (by decide) ?_
          refine lv_iinc (v := ((nI j) + 1)) (lv' := [(5, .int ((nI j) + 1)), (6, .null), (0, .ref (ad 0 0)), (1, .int (cutN σ (fun y => if σ 21 y = 119 then 0 else f_off σ (nI y)) j)), (2, .int (cutN σ (fun y => if σ 21 y = 119 then 0 else 1) j)), (3, .ref (ad 3 0)), (4, .int 24)]) hx hb dX6_meanOff_55 hl (k := 6) rfl rfl (by decide) rfl (fun ls hl => ?_)
          refine lv_goto (tgt := 16) hx hb dX6_meanOff_58 (by decide) ?_
          have e_11 : ((cutN σ (fun y => if σ 21 y = 119 then 0 else f_off σ (nI y)) (j + 1)) : Int32) = (cutN σ (fun y => if σ 21 y = 119 then 0 else f_off σ (nI y)) j) := (by first | rfl | (simp only [cutN_s]; (repeat' split) <;> first | rfl | contradiction | exact Int32.add_zero _ | exact Int64.add_zero _ | (exfalso; simp_all [-Int32.not_lt, -Int32.not_le]; done)) | (simp only [cutN_s]; simp_all [-Int32.not_lt, -Int32.not_le]; done))
          have e_12 : ((cutN σ (fun y => if σ 21 y = 119 then 0 else 1) (j + 1)) : Int32) = (cutN σ (fun y => if σ 21 y = 119 then 0 else 1) j) := (by first | rfl | (simp only [cutN_s]; (repeat' split) <;> first | rfl | contradiction | exact Int32.add_zero _ | exact Int64.add_zero _ | (exfalso; simp_all [-Int32.not_lt, -Int32.not_le]; done)) | (simp only [cutN_s]; simp_all [-Int32.not_lt, -Int32.not_le]; done))
          have e_13 : ((nI (j + 1)) : Int32) = ((nI j) + 1) := (nI_1 j).symm
          have hl2 : lv_has ls 7 [(0, .ref (ad 0 0)), (1, .int (cutN σ (fun y => if σ 21 y = 119 then 0 else f_off σ (nI y)) (j + 1))), (2, .int (cutN σ (fun y => if σ 21 y = 119 then 0 else 1) (j + 1))), (3, .ref (ad 3 0)), (4, .int 24), (5, .int (nI (j + 1)))] := by
            rw [e_11, e_12, e_13]
            exact lv_sub hl [2, 3, 4, 5, 6, 0] rfl
          exact ih_16 (j + 1) (by omega) (by omega) ls hl2
  have e_14 : ((cutN σ (fun y => if σ 21 y = 119 then 0 else f_off σ (nI y)) (0)) : Int32) = 0 := (by first | rfl | (simp only [cutN_s]; (repeat' split) <;> first | rfl | contradiction | exact Int32.add_zero _ | exact Int64.add_zero _ | (exfalso; simp_all [-Int32.not_lt, -Int32.not_le]; done)) | (simp only [cutN_s]; simp_all [-Int32.not_lt, -Int32.not_le]; done))
  have e_15 : ((cutN σ (fun y => if σ 21 y = 119 then 0 else 1) (0)) : Int32) = 0 := (by first | rfl | (simp only [cutN_s]; (repeat' split) <;> first | rfl | contradiction | exact Int32.add_zero _ | exact Int64.add_zero _ | (exfalso; simp_all [-Int32.not_lt, -Int32.not_le]; done)) | (simp only [cutN_s]; simp_all [-Int32.not_lt, -Int32.not_le]; done))
  have e_16 : ((nI (0)) : Int32) = 0 := (by first | rfl | (simp only [cutN_s]; (repeat' split) <;> first | rfl | contradiction | exact Int32.add_zero _ | exact Int64.add_zero _ | (exfalso; simp_all [-Int32.not_lt, -Int32.not_le]; done)) | (simp only [cutN_s]; simp_all [-Int32.not_lt, -Int32.not_le]; done))
  have hl2 : lv_has ls 7 [(0, .ref (ad 0 0)), (1, .int (cutN σ (fun y => if σ 21 y = 119 then 0 else f_off σ (nI y)) (0))), (2, .int (cutN σ (fun y => if σ 21 y = 119 then 0 else 1) (0))), (3, .ref (ad 3 0)), (4, .int 24), (5, .int (nI (0)))] := by
    rw [e_14, e_15, e_16]
    exact lv_sub hl [5, 4, 3, 2, 1, 0] rfl
  exact lp16 (24 - 0 + 1) (0) (Nat.zero_le _) (Nat.lt_succ_self _) ls hl2
