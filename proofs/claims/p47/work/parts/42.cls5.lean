set_option maxHeartbeats 4000000 in
set_option maxRecDepth 100000 in
theorem qX4_set (la : Launch) (g : EG) (lo : Nat) (ad : Nat → Nat → Nat) (σ : Sg) (u : Nat → Int64) (τ : Sg) (hA : XA lo ad σ) (i : Nat) (hi : i < nL σ) (x0 x1 x2 : Int32) : Met la yX4_set wsX4_set ({ frames := 0, cells := 0, slots := 0, locals := 0 } : Room) (va_Pc [.ref (ad 17 i), .int x0, .int x1, .int x2] (fun U => XR g ad σ u τ U.heap ∧ KK g U)) (QM (.returned none) (fun H9 => XR g ad (up (up (up σ 16 (3 * i) x0) 16 (3 * i + 1) x1) 16 (3 * i + 2) x2) u τ H9) (xown ad σ)) 0 0 (fun q => lo ≤ q) := by
  refine Met.ofW (cc := cX4_set) (maxL := 4) (ret := none) (by decide) rfl ?_
  intro p e s m args below meth c s₁ B hml hv
  obtain ⟨rfl, hX, hK⟩ := hv
  have hx := B.exec
  have hb := B.bytes
  have hr := B.returns
  have hts := atoms_spec (ws := wsX4_set) B.pre
  have hown : s.vm.findClass RX4 = some m.cls := findClass_of_methodNamed B.named
  have hlocks := B.notSynchronized
  have hinX4 : ∀ w ∈ wsX40, w ∈ wsX4_set := by decide +kernel
  have lk13 := hts (.fieldLink RX4 13 "DyehouseLedger$Shade" "red" "I") (by decide +kernel)
  have lk16 := hts (.fieldLink RX4 16 "DyehouseLedger$Shade" "blue" "I") (by decide +kernel)
  have lk7 := hts (.fieldLink RX4 7 "DyehouseLedger$Shade" "light" "I") (by decide +kernel)
  have hl := lv_entry ([.ref (ad 17 i), .int x0, .int x1, .int x2]) (n := 4) (Nat.le_of_ble_eq_true rfl)
  rw [lg_entry_eq]
  generalize (lg_sl ([.ref (ad 17 i), .int x0, .int x1, .int x2]) ++ List.replicate (4 - (lg_sl ([.ref (ad 17 i), .int x0, .int x1, .int x2])).length) Slot.unset).toArray = ls at hl ⊢
  have hl : lv_has ls 4 [(0, .ref (ad 17 i)), (1, .int x0), (2, .int x1), (3, .int x2)] := hl
  refine lv_aload_n hx hb dX4_set_0 rfl (lv_at hl 0 rfl) ?_
  refine lv_iload_n hx hb dX4_set_1 rfl (lv_at hl 1 rfl) ?_
  have hS := XS.start (lo := lo) hX
  have hX := hS.1
  refine sp_put (ref := RX4) (C := RX4) (T := TX4) (N := 3) (ci := 6) (ty := .int) (v := .int x0) hx hb hts hinX4 tyX4 tyX4_ok nmX4 hown hK (show va_at g.1 vwCl (ad 17 i, .inr (6, _)) _ from hX 17 i hi) rfl 0 (by decide) lk7 (fun _ h => h) rfl (by decide +kernel) rfl rfl (show 0 < 3 from by decide) dX4_set_2 (fun H1 j1 h1 h2 h3 => ?_)
  have hS := hS.upd hA (K := 17) (i := i) hi (σ' := (up σ 16 (3 * i) x0)) (u' := u) (τ' := τ) h1 h2 h3 (loc1 (j := j1)) (xcnt_up _ (by decide) _ _) (by simp [xcont, up, upd, va_rf]) (fun K9 i9 hi9 hne => cont_shade g.2 ad (fun k9 j9 hn => up_off _ _ (by omega)) hne)
  have hX := hS.1
  refine lv_aload_n hx hb dX4_set_5 rfl (lv_at hl 0 rfl) ?_
  refine lv_iload_n hx hb dX4_set_6 rfl (lv_at hl 2 rfl) ?_
  refine sp_put (ref := RX4) (C := RX4) (T := TX4) (N := 3) (ci := 6) (ty := .int) (v := .int x1) hx hb hts hinX4 tyX4 tyX4_ok nmX4 hown hK (show va_at g.1 vwCl (ad 17 i, .inr (6, _)) _ from hX 17 i hi) rfl 1 (by decide) lk13 (fun _ h => h) rfl (by decide +kernel) rfl rfl (show 1 < 3 from by decide) dX4_set_7 (fun H1 j1 h1 h2 h3 => ?_)
  have hS := hS.upd hA (K := 17) (i := i) hi (σ' := (up (up σ 16 (3 * i) x0) 16 (3 * i + 1) x1)) (u' := u) (τ' := τ) h1 h2 h3 (loc1 (j := j1)) (xcnt_up _ (by decide) _ _) (by simp [xcont, up, upd, va_rf]) (fun K9 i9 hi9 hne => cont_shade g.2 ad (fun k9 j9 hn => up_off _ _ (by omega)) hne)
  have hX := hS.1
  refine lv_aload_n hx hb dX4_set_10 rfl (lv_at hl 0 rfl) ?_
  refine lv_iload_n hx hb dX4_set_11 rfl (lv_at hl 3 rfl) ?_
  refine sp_put (ref := RX4) (C := RX4) (T := TX4) (N := 3) (ci := 6) (ty := .int) (v := .int x2) hx hb hts hinX4 tyX4 tyX4_ok nmX4 hown hK (show va_at g.1 vwCl (ad 17 i, .inr (6, _)) _ from hX 17 i hi) rfl 2 (by decide) lk16 (fun _ h => h) rfl (by decide +kernel) rfl rfl (show 2 < 3 from by decide) dX4_set_12 (fun H1 j1 h1 h2 h3 => ?_)
  have hS := hS.upd hA (K := 17) (i := i) hi (σ' := (up (up (up σ 16 (3 * i) x0) 16 (3 * i + 1) x1) 16 (3 * i + 2) x2)) (u' := u) (τ' := τ) h1 h2 h3 (loc1 (j := j1)) (xcnt_up _ (by decide) _ _) (by simp [xcont, up, upd, va_rf]) (fun K9 i9 hi9 hne => cont_shade g.2 ad (fun k9 j9 hn => up_off _ _ (by omega)) hne)
  have hX := hS.1
  have hS9 := hS.cg (show (up (up (up σ 16 (3 * i) x0) 16 (3 * i + 1) x1) 16 (3 * i + 2) x2) = (up (up (up σ 16 (3 * i) x0) 16 (3 * i + 1) x1) 16 (3 * i + 2) x2) from rfl) (show _ = u from rfl) rfl
  exact W.vret hx hb hr (fun t ht9 hW => ⟨rfl, by rw [ht9]; exact hS9.1, by first | (rw [ht9]; done) | (rw [ht9]; exact hS.2.1), fun q hq => by first | (rw [ht9]; done) | rw [ht9]; exact hS.2.2.1 q (fun z => hq (by first | exact z | (obtain ⟨K9, i9, a9, b9⟩ := z; refine ⟨K9, i9, ?_, b9⟩; split at a9 <;> exact a9)))⟩) hS.2.2.2 dX4_set_15
set_option maxHeartbeats 4000000 in
set_option maxRecDepth 100000 in
theorem qX6_takeDyesFor (la : Launch) (g : EG) (lo : Nat) (ad : Nat → Nat → Nat) (σ : Sg) (u : Nat → Int64) (τ : Sg) (hA : XA lo ad σ) (hI : INV σ) (i : Nat) (hi : i < nL σ) : Met la yX6_takeDyesFor wsX6_takeDyesFor ({ frames := 1, cells := 0, slots := 0, locals := 21 } : Room) (va_Pc [.ref (ad 0 0), .ref (ad 16 i)] (fun U => XR g ad σ u τ U.heap ∧ KK g U)) (QM (.returned none) (fun H9 => XR g ad (up (up (up σ 7 0 (σ 7 0 - (f_needed σ (nI i) 0))) 7 1 (σ 7 1 - (f_needed σ (nI i) 1))) 7 2 (σ 7 2 - (f_needed σ (nI i) 2))) (vp_updL (vp_updL (vp_updL u 0 (u 0 + (f_needed σ (nI i) 0).toInt64)) 1 (u 1 + (f_needed σ (nI i) 1).toInt64)) 2 (u 2 + (f_needed σ (nI i) 2).toInt64)) τ H9) (xown ad σ)) 0 0 (fun q => lo ≤ q) := by
  refine Met.ofW (cc := cX6_takeDyesFor) (maxL := 4) (ret := none) (by decide) rfl ?_
  intro p e s m args below meth c s₁ B hml hv
  obtain ⟨rfl, hX, hK⟩ := hv
  have hx := B.exec
  have hb := B.bytes
  have hr := B.returns
  have hts := atoms_spec (ws := wsX6_takeDyesFor) B.pre
  have hown : s.vm.findClass RX6 = some m.cls := findClass_of_methodNamed B.named
  have hlocks := B.notSynchronized
  have hinX6 : ∀ w ∈ wsX60, w ∈ wsX6_takeDyesFor := by decide +kernel
  have lk33 := hts (.fieldLink RX6 33 "DyehouseLedger" "gramsInStock" "[I") (by decide +kernel)
  have lk37 := hts (.fieldLink RX6 37 "DyehouseLedger" "gramsUsed" "[J") (by decide +kernel)
  have hl := lv_entry ([.ref (ad 0 0), .ref (ad 16 i)]) (n := 4) (Nat.le_of_ble_eq_true rfl)
  rw [lg_entry_eq]
  generalize (lg_sl ([.ref (ad 0 0), .ref (ad 16 i)]) ++ List.replicate (4 - (lg_sl ([.ref (ad 0 0), .ref (ad 16 i)])).length) Slot.unset).toArray = ls at hl ⊢
  have hl : lv_has ls 4 [(0, .ref (ad 0 0)), (1, .ref (ad 16 i))] := hl
  refine lv_iconst (v := 0) hx hb dX6_takeDyesFor_0 (by decide) ?_
  refine lv_istore_n (lv' := [(2, .int 0), (0, .ref (ad 0 0)), (1, .ref (ad 16 i))]) hx hb dX6_takeDyesFor_1 rfl hl (by decide) rfl (fun ls hl => ?_)
  refine lv_iload_n hx hb dX6_takeDyesFor_2 rfl (lv_at hl 0 rfl) ?_
  refine lv_iconst (v := 3) hx hb dX6_takeDyesFor_3 (by decide) ?_
  refine lv_icmp_ge (tgt := 40) hx hb dX6_takeDyesFor_4 (by decide) (fun c_1 => ?_) (fun c_1 => ?_)
  · exact absurd c_1 (by decide)
  · replace c_1 := Int32.not_le.mp c_1
    refine lv_aload_n hx hb dX6_takeDyesFor_7 rfl (lv_at hl 2 rfl) ?_
    refine lv_iload_n hx hb dX6_takeDyesFor_8 rfl (lv_at hl 0 rfl) ?_
    refine xc_ro (n := 1) (K := 16) (i := i) (As := [.int 0]) (rest := []) (v := [.int (f_needed σ (nI i) 0)]) ⟨hx, hb, hml, hown, hts⟩ hK hX hi rfl rfl (qX0_gramsNeeded la g ad σ u τ hI i hi 0 (vin_dec (by decide +kernel))) gX6_takeDyesFor_X0_gramsNeeded rfl rfl rfl (by decide +kernel) ⟨Nat.le_of_ble_eq_true rfl, Nat.le_of_ble_eq_true rfl⟩ rfl hl.1 rfl (Nat.le_of_ble_eq_true rfl) dX6_takeDyesFor_9 ⟨Nat.zero_le _, Nat.zero_le _⟩ rfl ?_
    refine lv_istore_n (lv' := [(3, .int (f_needed σ (nI i) 0)), (2, .int 0), (0, .ref (ad 0 0)), (1, .ref (ad 16 i))]) hx hb dX6_takeDyesFor_12 rfl hl (by decide) rfl (fun ls hl => ?_)
    refine lv_aload_n hx hb dX6_takeDyesFor_13 rfl (lv_at hl 2 rfl) ?_
    refine x_get (K := 0) (i := 0) (v := .ref (ad 5 0)) hx hb hts hinX6 hown hK hX (show 0 < 1 from Nat.zero_lt_one) 4 rfl rfl (by decide) rfl lk33 rfl dX6_takeDyesFor_14 ?_
    refine lv_iload_n hx hb dX6_takeDyesFor_17 rfl (lv_at hl 1 rfl) ?_
    refine lv_dup2_11 hx hb dX6_takeDyesFor_18 rfl rfl ?_
    refine x_iald (K := 5) (i := 0) (n := 3) (f := (σ 7)) (j := 0) (x := (σ 7 0)) hx hb hK hX (show 0 < 1 from Nat.zero_lt_one) rfl (vin_dec (by decide +kernel)) (congrArg (σ 7) ti_0) dX6_takeDyesFor_19 ?_
    refine lv_iload_n hx hb dX6_takeDyesFor_20 rfl (lv_at hl 0 rfl) ?_
    refine lv_isub hx hb dX6_takeDyesFor_21 ?_
    have hS := XS.start (lo := lo) hX
    have hX := hS.1
    refine sp_iast hx hb hK 1 (show va_at g.1 vwCl (ad 5 0, .inl (g.2 1, 3, .inl _)) _ from hX 5 0 (show 0 < 1 from Nat.zero_lt_one)) rfl (vin_dec (by decide +kernel)) dX6_takeDyesFor_22 (fun H1 j1 h1 h2 h3 => ?_)
    have hS := hS.upd hA (K := 5) (i := 0) (show 0 < 1 from Nat.zero_lt_one) (σ' := (up σ 7 0 ((σ 7 0) - (f_needed σ (nI i) 0)))) (u' := u) (τ' := τ) h1 h2 h3 (loc1 (j := j1)) (xcnt_up _ (by decide) _ _) (by first | (simp only [ti_0, ti_1, ti_2]; rfl) | rfl) (fun K9 i9 hi9 hne => cont_stock g.2 ad (fun k9 j9 hn => up_off _ _ (fun q => hn q.1)) hne hi9)
    have hX := hS.1
    refine lv_aload_n hx hb dX6_takeDyesFor_23 rfl (lv_at hl 2 rfl) ?_
    refine x_get (K := 0) (i := 0) (v := .ref (ad 6 0)) hx hb hts hinX6 hown hK hX (show 0 < 1 from Nat.zero_lt_one) 5 rfl rfl (by decide) rfl lk37 (by first | rfl | (simp [up, upd]; done)) dX6_takeDyesFor_24 ?_
    refine lv_iload_n hx hb dX6_takeDyesFor_27 rfl (lv_at hl 1 rfl) ?_
    refine lv_dup2_11 hx hb dX6_takeDyesFor_28 rfl rfl ?_
    refine x_lald (j := 0) (x := (u 0)) hx hb hK hX (vin_dec (by decide +kernel)) (by first | (simp [vp_updL, ti_0, ti_1, ti_2]; done) | rfl) dX6_takeDyesFor_29 ?_
    refine lv_iload_n hx hb dX6_takeDyesFor_30 rfl (lv_at hl 0 rfl) ?_
    refine lv_i2l hx hb dX6_takeDyesFor_31 rfl ?_
    refine lv_ladd hx hb dX6_takeDyesFor_32 ?_
    refine sp_last hx hb hK 2 (show va_at g.1 vwCl (ad 6 0, .inl (g.2 2, 3, .inr (.inl _))) _ from hX 6 0 Nat.zero_lt_one) rfl (vin_dec (by decide +kernel)) dX6_takeDyesFor_33 (fun H1 j1 h1 h2 h3 => ?_)
    have hS := hS.upd hA (K := 6) (i := 0) (show 0 < 1 from Nat.zero_lt_one) (σ' := (up σ 7 0 ((σ 7 0) - (f_needed σ (nI i) 0)))) (u' := (vp_updL u 0 ((u 0) + (f_needed σ (nI i) 0).toInt64))) (τ' := τ) h1 h2 h3 (loc1 (j := j1)) rfl (by first | (simp only [ti_0, ti_1, ti_2]; rfl) | rfl) (fun K9 i9 hi9 hne => cont_used g.2 ad hne hi9)
    have hX := hS.1
    refine lv_iinc (v := 1) (lv' := [(2, .int 1), (3, .int (f_needed σ (nI i) 0)), (0, .ref (ad 0 0)), (1, .ref (ad 16 i))]) hx hb dX6_takeDyesFor_34 hl (k := 1) rfl (by decide) (by decide) rfl (fun ls hl => ?_)
    refine lv_goto (tgt := 2) hx hb dX6_takeDyesFor_37 (by decide) ?_
    refine lv_iload_n hx hb dX6_takeDyesFor_2 rfl (lv_at hl 0 rfl) ?_
    refine lv_iconst (v := 3) hx hb dX6_takeDyesFor_3 (by decide) ?_
    refine lv_icmp_ge (tgt := 40) hx hb dX6_takeDyesFor_4 (by decide) (fun c_2 => ?_) (fun c_2 => ?_)
    · exact absurd c_2 (by decide)
    · replace c_2 := Int32.not_le.mp c_2
      refine lv_aload_n hx hb dX6_takeDyesFor_7 rfl (lv_at hl 3 rfl) ?_
      refine lv_iload_n hx hb dX6_takeDyesFor_8 rfl (lv_at hl 0 rfl) ?_
      refine xc_ro (n := 1) (K := 16) (i := i) (As := [.int 1]) (rest := []) (v := [.int (f_needed σ (nI i) 1)]) ⟨hx, hb, hml, hown, hts⟩ hK hX hi rfl rfl (qX0_gramsNeeded la g ad (up σ 7 0 ((σ 7 0) - (f_needed σ (nI i) 0))) (vp_updL u 0 ((u 0) + (f_needed σ (nI i) 0).toInt64)) τ (hI.u7 0 _) i hi 1 (vin_dec (by decide +kernel))) gX6_takeDyesFor_X0_gramsNeeded rfl rfl rfl (by decide +kernel) ⟨Nat.le_of_ble_eq_true rfl, Nat.le_of_ble_eq_true rfl⟩ rfl hl.1 rfl (Nat.le_of_ble_eq_true rfl) dX6_takeDyesFor_9 ⟨Nat.zero_le _, Nat.zero_le _⟩ (by simp only [needed_up7, needed_up0, hours_up0, hours_up7, hours_up23, Option.toList_some]) ?_
      refine lv_istore_n (lv' := [(3, .int (f_needed σ (nI i) 1)), (2, .int 1), (0, .ref (ad 0 0)), (1, .ref (ad 16 i))]) hx hb dX6_takeDyesFor_12 rfl hl (by decide) rfl (fun ls hl => ?_)
      refine lv_aload_n hx hb dX6_takeDyesFor_13 rfl (lv_at hl 2 rfl) ?_
      refine x_get (K := 0) (i := 0) (v := .ref (ad 5 0)) hx hb hts hinX6 hown hK hX (show 0 < 1 from Nat.zero_lt_one) 4 rfl rfl (by decide) rfl lk33 (by first | rfl | (simp [up, upd]; done)) dX6_takeDyesFor_14 ?_
      refine lv_iload_n hx hb dX6_takeDyesFor_17 rfl (lv_at hl 1 rfl) ?_
      refine lv_dup2_11 hx hb dX6_takeDyesFor_18 rfl rfl ?_
      refine x_iald (K := 5) (i := 0) (n := 3) (f := _) (j := 1) (x := (σ 7 1)) hx hb hK hX (show 0 < 1 from Nat.zero_lt_one) rfl (vin_dec (by decide +kernel)) (by first | (simp [up, upd, ti_0, ti_1, ti_2]; done) | rfl) dX6_takeDyesFor_19 ?_
      refine lv_iload_n hx hb dX6_takeDyesFor_20 rfl (lv_at hl 0 rfl) ?_
      refine lv_isub hx hb dX6_takeDyesFor_21 ?_
      refine sp_iast hx hb hK 1 (show va_at g.1 vwCl (ad 5 0, .inl (g.2 1, 3, .inl _)) _ from hX 5 0 (show 0 < 1 from Nat.zero_lt_one)) rfl (vin_dec (by decide +kernel)) dX6_takeDyesFor_22 (fun H1 j1 h1 h2 h3 => ?_)
      have hS := hS.upd hA (K := 5) (i := 0) (show 0 < 1 from Nat.zero_lt_one) (σ' := (up (up σ 7 0 ((σ 7 0) - (f_needed σ (nI i) 0))) 7 1 ((σ 7 1) - (f_needed σ (nI i) 1)))) (u' := (vp_updL u 0 ((u 0) + (f_needed σ (nI i) 0).toInt64))) (τ' := τ) h1 h2 h3 (loc1 (j := j1)) (xcnt_up _ (by decide) _ _) (by first | (simp only [ti_0, ti_1, ti_2]; rfl) | rfl) (fun K9 i9 hi9 hne => cont_stock g.2 ad (fun k9 j9 hn => up_off _ _ (fun q => hn q.1)) hne hi9)
      have hX := hS.1
      refine lv_aload_n hx hb dX6_takeDyesFor_23 rfl (lv_at hl 2 rfl) ?_
      refine x_get (K := 0) (i := 0) (v := .ref (ad 6 0)) hx hb hts hinX6 hown hK hX (show 0 < 1 from Nat.zero_lt_one) 5 rfl rfl (by decide) rfl lk37 (by first | rfl | (simp [up, upd]; done)) dX6_takeDyesFor_24 ?_
      refine lv_iload_n hx hb dX6_takeDyesFor_27 rfl (lv_at hl 1 rfl) ?_
      refine lv_dup2_11 hx hb dX6_takeDyesFor_28 rfl rfl ?_
      refine x_lald (j := 1) (x := (u 1)) hx hb hK hX (vin_dec (by decide +kernel)) (by first | (simp [vp_updL, ti_0, ti_1, ti_2]; done) | rfl) dX6_takeDyesFor_29 ?_
      refine lv_iload_n hx hb dX6_takeDyesFor_30 rfl (lv_at hl 0 rfl) ?_
      refine lv_i2l hx hb dX6_takeDyesFor_31 rfl ?_
      refine lv_ladd hx hb dX6_takeDyesFor_32 ?_
      refine sp_last hx hb hK 2 (show va_at g.1 vwCl (ad 6 0, .inl (g.2 2, 3, .inr (.inl _))) _ from hX 6 0 Nat.zero_lt_one) rfl (vin_dec (by decide +kernel)) dX6_takeDyesFor_33 (fun H1 j1 h1 h2 h3 => ?_)
      have hS := hS.upd hA (K := 6) (i := 0) (show 0 < 1 from Nat.zero_lt_one) (σ' := (up (up σ 7 0 ((σ 7 0) - (f_needed σ (nI i) 0))) 7 1 ((σ 7 1) - (f_needed σ (nI i) 1)))) (u' := (vp_updL (vp_updL u 0 ((u 0) + (f_needed σ (nI i) 0).toInt64)) 1 ((u 1) + (f_needed σ (nI i) 1).toInt64))) (τ' := τ) h1 h2 h3 (loc1 (j := j1)) rfl (by first | (simp only [ti_0, ti_1, ti_2]; rfl) | rfl) (fun K9 i9 hi9 hne => cont_used g.2 ad hne hi9)
      have hX := hS.1
      refine lv_iinc (v := 2) (lv' := [(2, .int 2), (3, .int (f_needed σ (nI i) 1)), (0, .ref (ad 0 0)), (1, .ref (ad 16 i))]) hx hb dX6_takeDyesFor_34 hl (k := 1) rfl (by decide) (by decide) rfl (fun ls hl => ?_)
      refine lv_goto (tgt := 2) hx hb dX6_takeDyesFor_37 (by decide) ?_
      refine lv_iload_n hx hb dX6_takeDyesFor_2 rfl (lv_at hl 0 rfl) ?_
      refine lv_iconst (v := 3) hx hb dX6_takeDyesFor_3 (by decide) ?_
      refine lv_icmp_ge (tgt := 40) hx hb dX6_takeDyesFor_4 (by decide) (fun c_3 => ?_) (fun c_3 => ?_)
      · exact absurd c_3 (by decide)
      · replace c_3 := Int32.not_le.mp c_3
        refine lv_aload_n hx hb dX6_takeDyesFor_7 rfl (lv_at hl 3 rfl) ?_
        refine lv_iload_n hx hb dX6_takeDyesFor_8 rfl (lv_at hl 0 rfl) ?_
        refine xc_ro (n := 1) (K := 16) (i := i) (As := [.int 2]) (rest := []) (v := [.int (f_needed σ (nI i) 2)]) ⟨hx, hb, hml, hown, hts⟩ hK hX hi rfl rfl (qX0_gramsNeeded la g ad (up (up σ 7 0 ((σ 7 0) - (f_needed σ (nI i) 0))) 7 1 ((σ 7 1) - (f_needed σ (nI i) 1))) (vp_updL (vp_updL u 0 ((u 0) + (f_needed σ (nI i) 0).toInt64)) 1 ((u 1) + (f_needed σ (nI i) 1).toInt64)) τ ((hI.u7 0 _).u7 1 _) i hi 2 (vin_dec (by decide +kernel))) gX6_takeDyesFor_X0_gramsNeeded rfl rfl rfl (by decide +kernel) ⟨Nat.le_of_ble_eq_true rfl, Nat.le_of_ble_eq_true rfl⟩ rfl hl.1 rfl (Nat.le_of_ble_eq_true rfl) dX6_takeDyesFor_9 ⟨Nat.zero_le _, Nat.zero_le _⟩ (by simp only [needed_up7, needed_up0, hours_up0, hours_up7, hours_up23, Option.toList_some]) ?_
        refine lv_istore_n (lv' := [(3, .int (f_needed σ (nI i) 2)), (2, .int 2), (0, .ref (ad 0 0)), (1, .ref (ad 16 i))]) hx hb dX6_takeDyesFor_12 rfl hl (by decide) rfl (fun ls hl => ?_)
        refine lv_aload_n hx hb dX6_takeDyesFor_13 rfl (lv_at hl 2 rfl) ?_
        refine x_get (K := 0) (i := 0) (v := .ref (ad 5 0)) hx hb hts hinX6 hown hK hX (show 0 < 1 from Nat.zero_lt_one) 4 rfl rfl (by decide) rfl lk33 (by first | rfl | (simp [up, upd]; done)) dX6_takeDyesFor_14 ?_
        refine lv_iload_n hx hb dX6_takeDyesFor_17 rfl (lv_at hl 1 rfl) ?_
        refine lv_dup2_11 hx hb dX6_takeDyesFor_18 rfl rfl ?_
        refine x_iald (K := 5) (i := 0) (n := 3) (f := _) (j := 2) (x := (σ 7 2)) hx hb hK hX (show 0 < 1 from Nat.zero_lt_one) rfl (vin_dec (by decide +kernel)) (by first | (simp [up, upd, ti_0, ti_1, ti_2]; done) | rfl) dX6_takeDyesFor_19 ?_
        refine lv_iload_n hx hb dX6_takeDyesFor_20 rfl (lv_at hl 0 rfl) ?_
        refine lv_isub hx hb dX6_takeDyesFor_21 ?_
        refine sp_iast hx hb hK 1 (show va_at g.1 vwCl (ad 5 0, .inl (g.2 1, 3, .inl _)) _ from hX 5 0 (show 0 < 1 from Nat.zero_lt_one)) rfl (vin_dec (by decide +kernel)) dX6_takeDyesFor_22 (fun H1 j1 h1 h2 h3 => ?_)
        have hS := hS.upd hA (K := 5) (i := 0) (show 0 < 1 from Nat.zero_lt_one) (σ' := (up (up (up σ 7 0 ((σ 7 0) - (f_needed σ (nI i) 0))) 7 1 ((σ 7 1) - (f_needed σ (nI i) 1))) 7 2 ((σ 7 2) - (f_needed σ (nI i) 2)))) (u' := (vp_updL (vp_updL u 0 ((u 0) + (f_needed σ (nI i) 0).toInt64)) 1 ((u 1) + (f_needed σ (nI i) 1).toInt64))) (τ' := τ) h1 h2 h3 (loc1 (j := j1)) (xcnt_up _ (by decide) _ _) (by first | (simp only [ti_0, ti_1, ti_2]; rfl) | rfl) (fun K9 i9 hi9 hne => cont_stock g.2 ad (fun k9 j9 hn => up_off _ _ (fun q => hn q.1)) hne hi9)
        have hX := hS.1
        refine lv_aload_n hx hb dX6_takeDyesFor_23 rfl (lv_at hl 2 rfl) ?_
        refine x_get (K := 0) (i := 0) (v := .ref (ad 6 0)) hx hb hts hinX6 hown hK hX (show 0 < 1 from Nat.zero_lt_one) 5 rfl rfl (by decide) rfl lk37 (by first | rfl | (simp [up, upd]; done)) dX6_takeDyesFor_24 ?_
        refine lv_iload_n hx hb dX6_takeDyesFor_27 rfl (lv_at hl 1 rfl) ?_
        refine lv_dup2_11 hx hb dX6_takeDyesFor_28 rfl rfl ?_
        refine x_lald (j := 2) (x := (u 2)) hx hb hK hX (vin_dec (by decide +kernel)) (by first | (simp [vp_updL, ti_0, ti_1, ti_2]; done) | rfl) dX6_takeDyesFor_29 ?_
        refine lv_iload_n hx hb dX6_takeDyesFor_30 rfl (lv_at hl 0 rfl) ?_
        refine lv_i2l hx hb dX6_takeDyesFor_31 rfl ?_
        refine lv_ladd hx hb dX6_takeDyesFor_32 ?_
        refine sp_last hx hb hK 2 (show va_at g.1 vwCl (ad 6 0, .inl (g.2 2, 3, .inr (.inl _))) _ from hX 6 0 Nat.zero_lt_one) rfl (vin_dec (by decide +kernel)) dX6_takeDyesFor_33 (fun H1 j1 h1 h2 h3 => ?_)
        have hS := hS.upd hA (K := 6) (i := 0) (show 0 < 1 from Nat.zero_lt_one) (σ' := (up (up (up σ 7 0 ((σ 7 0) - (f_needed σ (nI i) 0))) 7 1 ((σ 7 1) - (f_needed σ (nI i) 1))) 7 2 ((σ 7 2) - (f_needed σ (nI i) 2)))) (u' := (vp_updL (vp_updL (vp_updL u 0 ((u 0) + (f_needed σ (nI i) 0).toInt64)) 1 ((u 1) + (f_needed σ (nI i) 1).toInt64)) 2 ((u 2) + (f_needed σ (nI i) 2).toInt64))) (τ' := τ) h1 h2 h3 (loc1 (j := j1)) rfl (by first | (simp only [ti_0, ti_1, ti_2]; rfl) | rfl) (fun K9 i9 hi9 hne => cont_used g.2 ad hne hi9)
        have hX := hS.1
        refine lv_iinc (v := 3) (lv' := [(2, .int 3), (3, .int (f_needed σ (nI i) 2)), (0, .ref (ad 0 0)), (1, .ref (ad 16 i))]) hx hb dX6_takeDyesFor_34 hl (k := 1) rfl (by decide) (by decide) rfl (fun ls hl => ?_)
        refine lv_goto (tgt := 2) hx hb dX6_takeDyesFor_37 (by decide) ?_
        refine lv_iload_n hx hb dX6_takeDyesFor_2 rfl (lv_at hl 0 rfl) ?_
        refine lv_iconst (v := 3) hx hb dX6_takeDyesFor_3 (by decide) ?_
        refine lv_icmp_ge (tgt := 40) hx hb dX6_takeDyesFor_4 (by decide) (fun c_4 => ?_) (fun c_4 => ?_)
        · replace c_4 := Int32.not_lt.mpr c_4
          have hS9 := hS.cg (show (up (up (up σ 7 0 ((σ 7 0) - (f_needed σ (nI i) 0))) 7 1 ((σ 7 1) - (f_needed σ (nI i) 1))) 7 2 ((σ 7 2) - (f_needed σ (nI i) 2))) = (up (up (up σ 7 0 (σ 7 0 - (f_needed σ (nI i) 0))) 7 1 (σ 7 1 - (f_needed σ (nI i) 1))) 7 2 (σ 7 2 - (f_needed σ (nI i) 2))) from rfl) (show _ = (vp_updL (vp_updL (vp_updL u 0 (u 0 + (f_needed σ (nI i) 0).toInt64)) 1 (u 1 + (f_needed σ (nI i) 1).toInt64)) 2 (u 2 + (f_needed σ (nI i) 2).toInt64)) from rfl) rfl
          exact W.vret hx hb hr (fun t ht9 hW => ⟨rfl, by rw [ht9]; exact hS9.1, by first | (rw [ht9]; done) | (rw [ht9]; exact hS.2.1), fun q hq => by first | (rw [ht9]; done) | rw [ht9]; exact hS.2.2.1 q (fun z => hq (by first | exact z | (obtain ⟨K9, i9, a9, b9⟩ := z; refine ⟨K9, i9, ?_, b9⟩; split at a9 <;> exact a9)))⟩) hS.2.2.2 dX6_takeDyesFor_40
        · exact absurd c_4 (by decide)
set_option maxHeartbeats 4000000 in
set_option maxRecDepth 100000 in
theorem qX6_barVatOf (la : Launch) (g : EG) (lo : Nat) (ad : Nat → Nat → Nat) (σ : Sg) (u : Nat → Int64) (τ : Sg) (hA : XA lo ad σ) (i : Nat) (hi : i < nL σ) (hO : ti (σ 14 i) < nO σ) (hV : ti (σ 17 i) < nV σ) (hs : ¬ σ 21 i = 119) : Met la yX6_barVatOf wsX6_barVatOf ({ frames := 0, cells := 0, slots := 0, locals := 0 } : Room) (va_Pc [.ref (ad 16 i)] (fun U => XR g ad σ u τ U.heap ∧ KK g U)) (QM (.returned none) (fun H9 => XR g ad (if σ 19 i = σ 26 (ti (σ 17 i)) then up σ 24 (ti (σ 17 i)) (σ 9 (ti (σ 14 i))) else σ) u τ H9) (xown ad σ)) 0 0 (fun q => lo ≤ q) := by
  refine Met.ofW (cc := cX6_barVatOf) (maxL := 2) (ret := none) (by decide) rfl ?_
  intro p e s m args below meth c s₁ B hml hv
  obtain ⟨rfl, hX, hK⟩ := hv
  have hx := B.exec
  have hb := B.bytes
  have hr := B.returns
  have hts := atoms_spec (ws := wsX6_barVatOf) B.pre
  have hown : s.vm.findClass RX6 = some m.cls := findClass_of_methodNamed B.named
  have hlocks := B.notSynchronized
  have hinX0 : ∀ w ∈ wsX00, w ∈ wsX6_barVatOf := by decide +kernel
  have hinX1 : ∀ w ∈ wsX10, w ∈ wsX6_barVatOf := by decide +kernel
  have hinX5 : ∀ w ∈ wsX50, w ∈ wsX6_barVatOf := by decide +kernel
  have lk151 := hts (.fieldLink RX6 151 "DyehouseLedger$Lot" "vat" "LDyehouseLedger$Vat;") (by decide +kernel)
  have lk158 := hts (.fieldLink RX6 158 "DyehouseLedger$Vat" "cleanings" "I") (by decide +kernel)
  have lk161 := hts (.fieldLink RX6 161 "DyehouseLedger$Lot" "cleaningsThen" "I") (by decide +kernel)
  have lk167 := hts (.fieldLink RX6 167 "DyehouseLedger$Vat" "onlyCustomer" "I") (by decide +kernel)
  have lk236 := hts (.fieldLink RX6 236 "DyehouseLedger$Lot" "order" "LDyehouseLedger$Order;") (by decide +kernel)
  have lk260 := hts (.fieldLink RX6 260 "DyehouseLedger$Order" "customer" "I") (by decide +kernel)
  have hl := lv_entry ([.ref (ad 16 i)]) (n := 2) (Nat.le_of_ble_eq_true rfl)
  rw [lg_entry_eq]
  generalize (lg_sl ([.ref (ad 16 i)]) ++ List.replicate (2 - (lg_sl ([.ref (ad 16 i)])).length) Slot.unset).toArray = ls at hl ⊢
  have hl : lv_has ls 2 [(0, .ref (ad 16 i))] := hl
  refine lv_aload_n hx hb dX6_barVatOf_0 rfl (lv_at hl 0 rfl) ?_
  refine x_get (K := 16) (i := i) (v := .ref (ad 18 (ti (σ 17 i)))) hx hb hts hinX0 hown hK hX hi 5 rfl rfl (by decide) rfl lk151 (congrArg some (opt_in hs)) dX6_barVatOf_1 ?_
  refine lv_astore_n (lv' := [(1, .ref (ad 18 (ti (σ 17 i)))), (0, .ref (ad 16 i))]) hx hb dX6_barVatOf_4 rfl hl (by decide) rfl (fun ls hl => ?_)
  refine lv_aload_n hx hb dX6_barVatOf_5 rfl (lv_at hl 0 rfl) ?_
  refine lv_ifnull hx hb dX6_barVatOf_6 ?_
  refine lv_aload_n hx hb dX6_barVatOf_9 rfl (lv_at hl 0 rfl) ?_
  refine x_get (K := 18) (i := (ti (σ 17 i))) (v := .int (σ 26 (ti (σ 17 i)))) hx hb hts hinX5 hown hK hX hV 5 rfl rfl (by decide) rfl lk158 rfl dX6_barVatOf_10 ?_
  refine lv_aload_n hx hb dX6_barVatOf_13 rfl (lv_at hl 1 rfl) ?_
  refine x_get (K := 16) (i := i) (v := .int (σ 19 i)) hx hb hts hinX0 hown hK hX hi 7 rfl rfl (by decide) rfl lk161 rfl dX6_barVatOf_14 ?_
  refine lv_icmp_ne (tgt := 31) hx hb dX6_barVatOf_17 (by decide) (fun c_1 => ?_) (fun c_1 => ?_)
  · have hS := XS.start (lo := lo) hX
    have hX := hS.1
    have hS9 := hS.cg (show σ = (if σ 19 i = σ 26 (ti (σ 17 i)) then up σ 24 (ti (σ 17 i)) (σ 9 (ti (σ 14 i))) else σ) from (by first | exact (if_pos (Eq.symm (by assumption))).symm | exact (if_neg (fun q => absurd q.symm (by assumption))).symm)) (show _ = u from rfl) rfl
    exact W.vret hx hb hr (fun t ht9 hW => ⟨rfl, by rw [ht9]; exact hS9.1, by first | (rw [ht9]; done) | (rw [ht9]; exact hS.2.1), fun q hq => by first | (rw [ht9]; done) | rw [ht9]; exact hS.2.2.1 q (fun z => hq (by first | exact z | (obtain ⟨K9, i9, a9, b9⟩ := z; refine ⟨K9, i9, ?_, b9⟩; split at a9 <;> exact a9)))⟩) hS.2.2.2 dX6_barVatOf_31
  · refine lv_aload_n hx hb dX6_barVatOf_20 rfl (lv_at hl 0 rfl) ?_
    refine lv_aload_n hx hb dX6_barVatOf_21 rfl (lv_at hl 1 rfl) ?_
    refine x_get (K := 16) (i := i) (v := .ref (ad 15 (ti (σ 14 i)))) hx hb hts hinX0 hown hK hX hi 1 rfl rfl (by decide) rfl lk236 rfl dX6_barVatOf_22 ?_
    refine x_get (K := 15) (i := (ti (σ 14 i))) (v := .int (σ 9 (ti (σ 14 i)))) hx hb hts hinX1 hown hK hX hO 0 rfl rfl (by decide) rfl lk260 rfl dX6_barVatOf_25 ?_
    have hS := XS.start (lo := lo) hX
    have hX := hS.1
    refine sp_put (ref := RX5) (C := RX5) (T := TX5) (N := 6) (ci := 7) (ty := .int) (v := .int (σ 9 (ti (σ 14 i)))) hx hb hts hinX5 tyX5 tyX5_ok nmX5 hown hK (show va_at g.1 vwCl (ad 18 (ti (σ 17 i)), .inr (7, _)) _ from hX 18 (ti (σ 17 i)) hV) rfl 3 (by decide) lk167 (fun _ h => h) rfl (by decide +kernel) rfl rfl (show 3 < 6 from by decide) dX6_barVatOf_28 (fun H1 j1 h1 h2 h3 => ?_)
    have hS := hS.upd hA (K := 18) (i := (ti (σ 17 i))) hV (σ' := (up σ 24 (ti (σ 17 i)) (σ 9 (ti (σ 14 i))))) (u' := u) (τ' := τ) h1 h2 h3 (loc1 (j := j1)) (xcnt_up _ (by decide) _ _) (by simp [xcont, up, upd, va_rf]) (fun K9 i9 hi9 hne => cont_vat g.2 ad (fun k9 j9 hn => up_off _ _ (by omega)) hne)
    have hX := hS.1
    have hS9 := hS.cg (show (up σ 24 (ti (σ 17 i)) (σ 9 (ti (σ 14 i)))) = (if σ 19 i = σ 26 (ti (σ 17 i)) then up σ 24 (ti (σ 17 i)) (σ 9 (ti (σ 14 i))) else σ) from (by first | exact (if_pos (Eq.symm (by assumption))).symm | exact (if_neg (fun q => absurd q.symm (by assumption))).symm)) (show _ = u from rfl) rfl
    exact W.vret hx hb hr (fun t ht9 hW => ⟨rfl, by rw [ht9]; exact hS9.1, by first | (rw [ht9]; done) | (rw [ht9]; exact hS.2.1), fun q hq => by first | (rw [ht9]; done) | rw [ht9]; exact hS.2.2.1 q (fun z => hq (by first | exact z | (obtain ⟨K9, i9, a9, b9⟩ := z; refine ⟨K9, i9, ?_, b9⟩; split at a9 <;> exact a9)))⟩) hS.2.2.2 dX6_barVatOf_31
set_option maxHeartbeats 4000000 in
set_option maxRecDepth 100000 in
theorem qX6_setDye (la : Launch) (hst : la.stackTraces = false) (g : EG) (lo : Nat) (ad : Nat → Nat → Nat) (σ : Sg) (u : Nat → Int64) (τ : Sg) (hI : INV σ) (hA : XA lo ad σ) (r d x : Int32) : vx_Met la yX6_setDye wsX6_setDye ({ frames := 8, cells := 3, slots := 18, locals := 142 } : Room) (va_Pc [.ref (ad 0 0), .int r, .int d, .int x] (fun U => XR g ad σ u τ U.heap ∧ EV g lo U)) (QXM (exOf 1 2 0 (t_setDye σ r d x)) (.returned (some (.int (σ 6 (ti (3 * r + d)))))) (fun H9 => XR g ad (F_setDye σ r d x) u τ H9) (xown ad σ)) (XX (exOf 1 2 0 (t_setDye σ r d x))) 3 18 (fun q => lo ≤ q) := by
  refine vx_ofW (cc := cX6_setDye) (maxL := 6) (ret := (some .int)) (by decide) rfl ?_
  intro p e s m args below meth c s₁ B hml ht hv
  obtain ⟨rfl, hX, hE⟩ := hv
  have hK := hE.1
  have hx := B.exec
  have hb := B.bytes
  have hr := B.returns
  have hts := atoms_spec (ws := wsX6_setDye) B.pre
  have hown : s.vm.findClass RX6 = some m.cls := findClass_of_methodNamed B.named
  have hlocks := B.notSynchronized
  have hinX3 : ∀ w ∈ wsX30, w ∈ wsX6_setDye := by decide +kernel
  have lk77 := hts (.fieldLink RX6 77 "DyehouseLedger$Recipe" "grams" "[I") (by decide +kernel)
  have hl := lv_entry ([.ref (ad 0 0), .int r, .int d, .int x]) (n := 6) (Nat.le_of_ble_eq_true rfl)
  rw [lg_entry_eq]
  generalize (lg_sl ([.ref (ad 0 0), .int r, .int d, .int x]) ++ List.replicate (6 - (lg_sl ([.ref (ad 0 0), .int r, .int d, .int x])).length) Slot.unset).toArray = ls at hl ⊢
  have hl : lv_has ls 6 [(0, .ref (ad 0 0)), (1, .int r), (2, .int d), (3, .int x)] := hl
  have hbL := hI.l.1
  have hbO := hI.o.1
  have hbV := hI.v.1
  by_cases kr9 : okR σ r
  · obtain ⟨i, hi, rfl⟩ := vp_in_of ((okR_in hI r).mp kr9) (Nat.lt_of_le_of_lt hI.r.1 (by decide))
    have hbi : nR σ ≤ _ := hI.r.1
    have eti : ti (nI i) = i := ti_nI (by omega)
    refine lv_aload_n hx hb dX6_setDye_0 rfl (lv_at hl 0 rfl) ?_
    refine lv_iload_n hx hb dX6_setDye_1 rfl (lv_at hl 1 rfl) ?_
    refine xc_v (n := 1) (As := [.int (nI i)]) (rest := []) (v := [.ref (ad 12 i)]) ⟨hx, hb, hml, hown, hts⟩ hE hX ht hlocks (fun q => absurd (show eR σ (nI i) = 0 from if_pos kr9) q) (qX6_recipeNumbered la hst g lo ad σ u τ hI (nI i)) gX6_setDye_X6_recipeNumbered rfl rfl rfl (by decide +kernel) ⟨Nat.le_of_ble_eq_true rfl, Nat.le_of_ble_eq_true rfl⟩ rfl hl.1 rfl (Nat.le_of_ble_eq_true rfl) dX6_setDye_2 ⟨Nat.le_of_ble_eq_true rfl, Nat.le_of_ble_eq_true rfl⟩ ⟨Nat.le_of_ble_eq_true rfl, Nat.le_of_ble_eq_true rfl⟩ (fun _ => congrArg (fun z => [Value.ref (ad 12 z)]) (ti_nI (by omega))) (fun h_1 => ?_)
    refine lv_astore (lv' := [(4, .ref (ad 12 i)), (0, .ref (ad 0 0)), (1, .int (nI i)), (2, .int d), (3, .int x)]) hx hb dX6_setDye_5 hl (by decide) rfl (fun ls hl => ?_)
    refine lv_iload_n hx hb dX6_setDye_7 rfl (lv_at hl 3 rfl) ?_
    refine xc_s (n := 1) (As := [.int d]) (rest := []) (v := []) ⟨hx, hb, hml, hown, hts⟩ hE ht hlocks (fun q => by have h9 : ¬ (okD d) := fun z => q (show eD d = 0 from if_pos z); exact (show (exOf 1 2 0 (t_setDye σ (nI i) d x)) = 2 from by rw [show (t_setDye σ (nI i) d x) = 2 from (by simp only [tD, tL, tV, tO, tW, tLV, tN, t_setDye, t_supply, t_plan, t_unplan, t_dye, okW, eti]; (repeat' split) <;> first | rfl | contradiction | (exfalso; simp_all [-Int32.not_lt, -Int32.not_le]; done))]; rfl).trans (show eD d = 2 from if_neg h9).symm) (qX6_checkDye la hst g lo d) gX6_setDye_X6_checkDye rfl rfl rfl (by decide +kernel) ⟨Nat.le_of_ble_eq_true rfl, Nat.le_of_ble_eq_true rfl⟩ rfl hl.1 rfl (Nat.le_of_ble_eq_true rfl) dX6_setDye_8 ⟨Nat.le_of_ble_eq_true rfl, Nat.le_of_ble_eq_true rfl⟩ ⟨Nat.le_of_ble_eq_true rfl, Nat.le_of_ble_eq_true rfl⟩ (fun _ => rfl) (fun h_3 => ?_)
    have kc_2 : okD d := Decidable.byContradiction fun z => absurd (show eD d = 0 from h_3) (by rw [show eD d = 2 from if_neg z]; decide)
    have kd := (okD_in d).mp kc_2
    refine lv_iload_n hx hb dX6_setDye_11 rfl (lv_at hl 4 rfl) ?_
    refine lv_iconst (v := 0) hx hb dX6_setDye_12 (by decide) ?_
    refine lv_sipush (v := 5000) hx hb dX6_setDye_13 (by decide) ?_
    refine xc_s (n := 3) (As := [.int x, .int 0, .int 5000]) (rest := []) (v := []) ⟨hx, hb, hml, hown, hts⟩ hE ht hlocks (fun q => by have h9 : ¬ (isP x 0 5000) := fun z => q (show eRg x 0 5000 = 0 from if_pos z); exact (show (exOf 1 2 0 (t_setDye σ (nI i) d x)) = 2 from by rw [show (t_setDye σ (nI i) d x) = 2 from (by simp only [tD, tL, tV, tO, tW, tLV, tN, t_setDye, t_supply, t_plan, t_unplan, t_dye, okW, eti]; (repeat' split) <;> first | rfl | contradiction | (exfalso; simp_all [-Int32.not_lt, -Int32.not_le]; done))]; rfl).trans (show eRg x 0 5000 = 2 from if_neg h9).symm) (qX6_checkRange la hst g lo x 0 5000) gX6_setDye_X6_checkRange rfl rfl rfl (by decide +kernel) ⟨Nat.le_of_ble_eq_true rfl, Nat.le_of_ble_eq_true rfl⟩ rfl hl.1 rfl (Nat.le_of_ble_eq_true rfl) dX6_setDye_16 ⟨Nat.le_of_ble_eq_true rfl, Nat.le_of_ble_eq_true rfl⟩ ⟨Nat.le_of_ble_eq_true rfl, Nat.le_of_ble_eq_true rfl⟩ (fun _ => rfl) (fun h_5 => ?_)
    have kc_4 : isP x 0 5000 := Decidable.byContradiction fun z => absurd (show eRg x 0 5000 = 0 from h_5) (by rw [show eRg x 0 5000 = 2 from if_neg z]; decide)
    refine lv_aload hx hb dX6_setDye_19 (lv_at hl 0 rfl) ?_
    refine x_get (K := 12) (i := i) (v := .ref (ad 14 i)) hx hb hts hinX3 hown hK hX hi 1 rfl rfl (by decide) rfl lk77 rfl dX6_setDye_21 ?_
    refine lv_iload_n hx hb dX6_setDye_24 rfl (lv_at hl 3 rfl) ?_
    refine x_iald (K := 14) (i := i) (n := 3) (f := (fun d => σ 6 (3 * i + d))) (j := d) (x := (σ 6 (3 * i + (ti d)))) hx hb hK hX hi rfl (by assumption) rfl dX6_setDye_25 ?_
    refine lv_istore (lv' := [(5, .int (σ 6 (3 * i + (ti d)))), (4, .ref (ad 12 i)), (0, .ref (ad 0 0)), (1, .int (nI i)), (2, .int d), (3, .int x)]) hx hb dX6_setDye_26 hl (by decide) rfl (fun ls hl => ?_)
    refine lv_aload hx hb dX6_setDye_28 (lv_at hl 1 rfl) ?_
    refine x_get (K := 12) (i := i) (v := .ref (ad 14 i)) hx hb hts hinX3 hown hK hX hi 1 rfl rfl (by decide) rfl lk77 rfl dX6_setDye_30 ?_
    refine lv_iload_n hx hb dX6_setDye_33 rfl (lv_at hl 4 rfl) ?_
    refine lv_iload_n hx hb dX6_setDye_34 rfl (lv_at hl 5 rfl) ?_
    have h3d : ti (3 * nI i + d) = 3 * i + ti d := (vin_3d (vp_in_nI (by omega) (by decide) : vp_in (nI i) 8) (N := 24) (by decide) (by decide) kd).2.trans (by rw [eti])
    have hS := XS.start (lo := lo) (XR.t0 hX 0)
    have hX := hS.1
    refine sp_iast hx hb hK 1 (show va_at g.1 vwCl (ad 14 i, .inl (g.2 1, 3, .inl _)) _ from hX 14 i hi) rfl (by assumption) dX6_setDye_35 (fun H1 j1 h1 h2 h3 => ?_)
    have hS := xs_grams hS hA hi (by assumption) (j := j1) h1 h2 h3
    have hX := hS.1
    refine lv_iload hx hb dX6_setDye_36 (lv_at hl 0 rfl) ?_
    have hS9 := hS.cg (show (up (up σ 0 0 0) 6 (3 * i + (ti d)) x) = (F_setDye σ (nI i) d x) from (by unfold F_setDye; rw [if_pos (show (t_setDye σ (nI i) d x) = 0 from (by simp only [tD, tL, tV, tO, tW, tLV, tN, t_setDye, t_supply, t_plan, t_unplan, t_dye, okW, eti]; (repeat' split) <;> first | rfl | contradiction | (exfalso; simp_all [-Int32.not_lt, -Int32.not_le]; done))), h3d])) (show _ = u from rfl) rfl
    refine vx_ret ?_
    refine W.widen (k := 3) (n := 18) (Nat.le_of_ble_eq_true rfl) (Nat.le_of_ble_eq_true rfl) ?_
    exact W.iret (v := (σ 6 (3 * i + (ti d)))) hx hb hr (fun t ht9 hW => ⟨(show (exOf 1 2 0 (t_setDye σ (nI i) d x)) = 0 from by rw [show (t_setDye σ (nI i) d x) = 0 from (by simp only [tD, tL, tV, tO, tW, tLV, tN, t_setDye, t_supply, t_plan, t_unplan, t_dye, okW, eti]; (repeat' split) <;> first | rfl | contradiction | (exfalso; simp_all [-Int32.not_lt, -Int32.not_le]; done))]; rfl), congrArg (fun z => Outcome.returned (some (Value.int z))) (congrArg (σ 6) h3d.symm), by rw [ht9]; exact hS9.1, by rw [ht9]; exact Nat.le_of_eq hS.2.1.symm, fun q _ hq => by first | (rw [ht9]; done) | rw [ht9]; exact hS.2.2.1 q (fun z => hq (by first | exact z | (obtain ⟨K9, i9, a9, b9⟩ := z; refine ⟨K9, i9, ?_, b9⟩; split at a9 <;> exact a9)))⟩) hS.2.2.2 dX6_setDye_38
  · refine lv_aload_n hx hb dX6_setDye_0 rfl (lv_at hl 0 rfl) ?_
    refine lv_iload_n hx hb dX6_setDye_1 rfl (lv_at hl 1 rfl) ?_
    refine xc_v (n := 1) (As := [.int r]) (rest := []) (v := [.ref (ad 12 (ti r))]) ⟨hx, hb, hml, hown, hts⟩ hE hX ht hlocks (fun _ => ((show (exOf 1 2 0 (t_setDye σ r d x)) = 1 from by rw [show (t_setDye σ r d x) = 1 from (by simp only [tD, tL, tV, tO, tW, tLV, tN, t_setDye, t_supply, t_plan, t_unplan, t_dye, okW]; (repeat' split) <;> first | rfl | contradiction | (exfalso; simp_all [-Int32.not_lt, -Int32.not_le]; done))]; rfl)).trans (show eR σ r = 1 from if_neg kr9).symm) (qX6_recipeNumbered la hst g lo ad σ u τ hI r) gX6_setDye_X6_recipeNumbered rfl rfl rfl (by decide +kernel) ⟨Nat.le_of_ble_eq_true rfl, Nat.le_of_ble_eq_true rfl⟩ rfl hl.1 rfl (Nat.le_of_ble_eq_true rfl) dX6_setDye_2 ⟨Nat.le_of_ble_eq_true rfl, Nat.le_of_ble_eq_true rfl⟩ ⟨Nat.le_of_ble_eq_true rfl, Nat.le_of_ble_eq_true rfl⟩ (fun _ => rfl) (fun h_7 => ?_)
    exact absurd h_7 (by rw [show eR σ r = 1 from if_neg kr9]; decide)
theorem tw_inX6_supply_3 : ∀ w ∈ (vx_at0 RX6 58 (en 3) exN).filter goodWord, w ∈ wsX6_supply := by decide +kernel
set_option maxHeartbeats 4000000 in
set_option maxRecDepth 100000 in
theorem qX6_supply (la : Launch) (hst : la.stackTraces = false) (g : EG) (lo : Nat) (ad : Nat → Nat → Nat) (σ : Sg) (u : Nat → Int64) (τ : Sg) (hI : INV σ) (hA : XA lo ad σ) (d x : Int32) : vx_Met la yX6_supply wsX6_supply ({ frames := 8, cells := 3, slots := 18, locals := 142 } : Room) (va_Pc [.ref (ad 0 0), .int d, .int x] (fun U => XR g ad σ u τ U.heap ∧ EV g lo U)) (QXM (exOf 2 3 0 (t_supply σ d x)) (.returned (some (.int (σ 7 (ti d) + x)))) (fun H9 => XR g ad (F_supply σ d x) u τ H9) (xown ad σ)) (XX (exOf 2 3 0 (t_supply σ d x))) 3 18 (fun q => lo ≤ q) := by
  refine vx_ofW (cc := cX6_supply) (maxL := 3) (ret := (some .int)) (by decide) rfl ?_
  intro p e s m args below meth c s₁ B hml ht hv
  obtain ⟨rfl, hX, hE⟩ := hv
  have hK := hE.1
  have hx := B.exec
  have hb := B.bytes
  have hr := B.returns
  have hts := atoms_spec (ws := wsX6_supply) B.pre
  have hown : s.vm.findClass RX6 = some m.cls := findClass_of_methodNamed B.named
  have hlocks := B.notSynchronized
  have hinX6 : ∀ w ∈ wsX60, w ∈ wsX6_supply := by decide +kernel
  have ck80 := hts (.constant RX6 80 (99999)) (by decide +kernel)
  have ck81 := hts (.constant RX6 81 (9999999)) (by decide +kernel)
  have lk33 := hts (.fieldLink RX6 33 "DyehouseLedger" "gramsInStock" "[I") (by decide +kernel)
  have ti3 := hts (.initialized "java/lang/IllegalStateException") (by decide +kernel)
  have tk3 := hts (.classLink RX6 56 "java/lang/IllegalStateException") (by decide +kernel)
  have tw3 : ∀ w ∈ (vx_at0 RX6 58 (en 3) exN).filter goodWord, w.before _ s = true := fun w h => hts w (tw_inX6_supply_3 w h)
  have hl := lv_entry ([.ref (ad 0 0), .int d, .int x]) (n := 3) (Nat.le_of_ble_eq_true rfl)
  rw [lg_entry_eq]
  generalize (lg_sl ([.ref (ad 0 0), .int d, .int x]) ++ List.replicate (3 - (lg_sl ([.ref (ad 0 0), .int d, .int x])).length) Slot.unset).toArray = ls at hl ⊢
  have hl : lv_has ls 3 [(0, .ref (ad 0 0)), (1, .int d), (2, .int x)] := hl
  have hbL := hI.l.1
  have hbO := hI.o.1
  have hbV := hI.v.1
  refine lv_iload_n hx hb dX6_supply_0 rfl (lv_at hl 1 rfl) ?_
  refine xc_s (n := 1) (As := [.int d]) (rest := []) (v := []) ⟨hx, hb, hml, hown, hts⟩ hE ht hlocks (fun q => by have h9 : ¬ (okD d) := fun z => q (show eD d = 0 from if_pos z); exact (show (exOf 2 3 0 (t_supply σ d x)) = 2 from by rw [show (t_supply σ d x) = 1 from (by simp only [tD, tL, tV, tO, tW, tLV, tN, t_setDye, t_supply, t_plan, t_unplan, t_dye, okW]; (repeat' split) <;> first | rfl | contradiction | (exfalso; simp_all [-Int32.not_lt, -Int32.not_le]; done))]; rfl).trans (show eD d = 2 from if_neg h9).symm) (qX6_checkDye la hst g lo d) gX6_supply_X6_checkDye rfl rfl rfl (by decide +kernel) ⟨Nat.le_of_ble_eq_true rfl, Nat.le_of_ble_eq_true rfl⟩ rfl hl.1 rfl (Nat.le_of_ble_eq_true rfl) dX6_supply_1 ⟨Nat.le_of_ble_eq_true rfl, Nat.le_of_ble_eq_true rfl⟩ ⟨Nat.le_of_ble_eq_true rfl, Nat.le_of_ble_eq_true rfl⟩ (fun _ => rfl) (fun h_2 => ?_)
  have kc_1 : okD d := Decidable.byContradiction fun z => absurd (show eD d = 0 from h_2) (by rw [show eD d = 2 from if_neg z]; decide)
  have kd := (okD_in d).mp kc_1
  refine lv_iload_n hx hb dX6_supply_4 rfl (lv_at hl 2 rfl) ?_
  refine lv_iconst (v := 1) hx hb dX6_supply_5 (by decide) ?_
  refine lv_ldc (v := 99999) hx hb hown ck80 dX6_supply_6 ?_
  refine xc_s (n := 3) (As := [.int x, .int 1, .int 99999]) (rest := []) (v := []) ⟨hx, hb, hml, hown, hts⟩ hE ht hlocks (fun q => by have h9 : ¬ (isP x 1 99999) := fun z => q (show eRg x 1 99999 = 0 from if_pos z); exact (show (exOf 2 3 0 (t_supply σ d x)) = 2 from by rw [show (t_supply σ d x) = 1 from (by simp only [tD, tL, tV, tO, tW, tLV, tN, t_setDye, t_supply, t_plan, t_unplan, t_dye, okW]; (repeat' split) <;> first | rfl | contradiction | (exfalso; simp_all [-Int32.not_lt, -Int32.not_le]; done))]; rfl).trans (show eRg x 1 99999 = 2 from if_neg h9).symm) (qX6_checkRange la hst g lo x 1 99999) gX6_supply_X6_checkRange rfl rfl rfl (by decide +kernel) ⟨Nat.le_of_ble_eq_true rfl, Nat.le_of_ble_eq_true rfl⟩ rfl hl.1 rfl (Nat.le_of_ble_eq_true rfl) dX6_supply_8 ⟨Nat.le_of_ble_eq_true rfl, Nat.le_of_ble_eq_true rfl⟩ ⟨Nat.le_of_ble_eq_true rfl, Nat.le_of_ble_eq_true rfl⟩ (fun _ => rfl) (fun h_4 => ?_)
  have kc_3 : isP x 1 99999 := Decidable.byContradiction fun z => absurd (show eRg x 1 99999 = 0 from h_4) (by rw [show eRg x 1 99999 = 2 from if_neg z]; decide)
  refine lv_aload_n hx hb dX6_supply_11 rfl (lv_at hl 0 rfl) ?_
  refine x_get (K := 0) (i := 0) (v := .ref (ad 5 0)) hx hb hts hinX6 hown hK hX (show 0 < 1 from Nat.zero_lt_one) 4 rfl rfl (by decide) rfl lk33 rfl dX6_supply_12 ?_
  refine lv_iload_n hx hb dX6_supply_15 rfl (lv_at hl 1 rfl) ?_
  refine x_iald (K := 5) (i := 0) (n := 3) (f := (σ 7)) (j := d) (x := (σ 7 (ti d))) hx hb hK hX (show 0 < 1 from Nat.zero_lt_one) rfl (by assumption) rfl dX6_supply_16 ?_
  refine lv_iload_n hx hb dX6_supply_17 rfl (lv_at hl 2 rfl) ?_
  refine lv_iadd hx hb dX6_supply_18 ?_
  refine lv_ldc (v := 9999999) hx hb hown ck81 dX6_supply_19 ?_
  refine lv_icmp_le (tgt := 32) hx hb dX6_supply_21 (by decide) (fun c_5 => ?_) (fun c_5 => ?_)
  · replace c_5 := Int32.not_lt.mpr c_5
    refine lv_aload_n hx hb dX6_supply_32 rfl (lv_at hl 0 rfl) ?_
    refine x_get (K := 0) (i := 0) (v := .ref (ad 5 0)) hx hb hts hinX6 hown hK hX (show 0 < 1 from Nat.zero_lt_one) 4 rfl rfl (by decide) rfl lk33 rfl dX6_supply_33 ?_
    refine lv_iload_n hx hb dX6_supply_36 rfl (lv_at hl 1 rfl) ?_
    refine lv_dup2_11 hx hb dX6_supply_37 rfl rfl ?_
    refine x_iald (K := 5) (i := 0) (n := 3) (f := (σ 7)) (j := d) (x := (σ 7 (ti d))) hx hb hK hX (show 0 < 1 from Nat.zero_lt_one) rfl (by assumption) rfl dX6_supply_38 ?_
    refine lv_iload_n hx hb dX6_supply_39 rfl (lv_at hl 2 rfl) ?_
    refine lv_iadd hx hb dX6_supply_40 ?_
    have hS := XS.start (lo := lo) (XR.t0 hX 0)
    have hX := hS.1
    refine sp_iast hx hb hK 1 (show va_at g.1 vwCl (ad 5 0, .inl (g.2 1, 3, .inl _)) _ from hX 5 0 (show 0 < 1 from Nat.zero_lt_one)) rfl (by assumption) dX6_supply_41 (fun H1 j1 h1 h2 h3 => ?_)
    have hS := hS.upd hA (K := 5) (i := 0) (show 0 < 1 from Nat.zero_lt_one) (σ' := (up (up σ 0 0 0) 7 (ti d) ((σ 7 (ti d)) + x))) (u' := u) (τ' := τ) h1 h2 h3 (loc1 (j := j1)) (xcnt_up _ (by decide) _ _) (by first | (simp only [ti_0, ti_1, ti_2]; rfl) | rfl) (fun K9 i9 hi9 hne => cont_stock g.2 ad (fun k9 j9 hn => up_off _ _ (fun q => hn q.1)) hne hi9)
    have hX := hS.1
    refine lv_aload_n hx hb dX6_supply_42 rfl (lv_at hl 0 rfl) ?_
    refine x_get (K := 0) (i := 0) (v := .ref (ad 5 0)) hx hb hts hinX6 hown hK hX (show 0 < 1 from Nat.zero_lt_one) 4 rfl rfl (by decide) rfl lk33 (by first | rfl | (simp [up, upd]; done)) dX6_supply_43 ?_
    refine lv_iload_n hx hb dX6_supply_46 rfl (lv_at hl 1 rfl) ?_
    refine x_iald (K := 5) (i := 0) (n := 3) (f := _) (j := d) (x := ((σ 7 (ti d)) + x)) hx hb hK hX (show 0 < 1 from Nat.zero_lt_one) rfl (by assumption) (by first | (simp [up, upd, ti_0, ti_1, ti_2]; done) | rfl) dX6_supply_47 ?_
    have hS9 := hS.cg (show (up (up σ 0 0 0) 7 (ti d) ((σ 7 (ti d)) + x)) = (F_supply σ d x) from (by unfold F_supply; rw [if_pos (show (t_supply σ d x) = 0 from (by simp only [tD, tL, tV, tO, tW, tLV, tN, t_setDye, t_supply, t_plan, t_unplan, t_dye, okW]; (repeat' split) <;> first | rfl | contradiction | (exfalso; simp_all [-Int32.not_lt, -Int32.not_le]; done)))])) (show _ = u from rfl) rfl
    refine vx_ret ?_
    refine W.widen (k := 3) (n := 18) (Nat.le_of_ble_eq_true rfl) (Nat.le_of_ble_eq_true rfl) ?_
    exact W.iret (v := ((σ 7 (ti d)) + x)) hx hb hr (fun t ht9 hW => ⟨(show (exOf 2 3 0 (t_supply σ d x)) = 0 from by rw [show (t_supply σ d x) = 0 from (by simp only [tD, tL, tV, tO, tW, tLV, tN, t_setDye, t_supply, t_plan, t_unplan, t_dye, okW]; (repeat' split) <;> first | rfl | contradiction | (exfalso; simp_all [-Int32.not_lt, -Int32.not_le]; done))]; rfl), congrArg (fun z => Outcome.returned (some (Value.int z))) rfl, by rw [ht9]; exact hS9.1, by rw [ht9]; exact Nat.le_of_eq hS.2.1.symm, fun q _ hq => by first | (rw [ht9]; done) | rw [ht9]; exact hS.2.2.1 q (fun z => hq (by first | exact z | (obtain ⟨K9, i9, a9, b9⟩ := z; refine ⟨K9, i9, ?_, b9⟩; split at a9 <;> exact a9)))⟩) hS.2.2.2 dX6_supply_48
  · replace c_5 := Int32.not_le.mp c_5
    exact x_throw (k9 := 3) (ic := 58) hx hb hst hown hE ht hlocks (hl.1.trans hml.symm) (fun _ _ _ => trivial) (by decide) tk3 ti3 tw3 bad3 good3 (by decide) (show (exOf 2 3 0 (t_supply σ d x)) = 3 from by rw [show (t_supply σ d x) = 2 from (by simp only [tD, tL, tV, tO, tW, tLV, tN, t_setDye, t_supply, t_plan, t_unplan, t_dye, okW]; (repeat' split) <;> first | rfl | contradiction | (exfalso; simp_all [-Int32.not_lt, -Int32.not_le]; done))]; rfl) dX6_supply_24 dX6_supply_27 dX6_supply_28 dX6_supply_31 (Nat.le_of_ble_eq_true rfl) (Nat.le_of_ble_eq_true rfl) (Nat.le_of_ble_eq_true rfl) (Nat.le_of_ble_eq_true rfl) (Nat.le_of_ble_eq_true rfl) (Nat.le_of_ble_eq_true rfl)
set_option maxHeartbeats 4000000 in
set_option maxRecDepth 100000 in
theorem qX6_clean (la : Launch) (hst : la.stackTraces = false) (g : EG) (lo : Nat) (ad : Nat → Nat → Nat) (σ : Sg) (u : Nat → Int64) (τ : Sg) (hI : INV σ) (hA : XA lo ad σ) (v : Int32) : vx_Met la yX6_clean wsX6_clean ({ frames := 7, cells := 1, slots := 6, locals := 122 } : Room) (va_Pc [.ref (ad 0 0), .int v] (fun U => XR g ad σ u τ U.heap ∧ EV g lo U)) (QXM (exOf 1 0 0 (tV σ v)) (.returned (some (.int (σ 25 (ti v) + 3)))) (fun H9 => XR g ad (F_clean σ v) u τ H9) (xown ad σ)) (XX (exOf 1 0 0 (tV σ v))) 1 6 (fun q => lo ≤ q) := by
  refine vx_ofW (cc := cX6_clean) (maxL := 3) (ret := (some .int)) (by decide) rfl ?_
  intro p e s m args below meth c s₁ B hml ht hv
  obtain ⟨rfl, hX, hE⟩ := hv
  have hK := hE.1
  have hx := B.exec
  have hb := B.bytes
  have hr := B.returns
  have hts := atoms_spec (ws := wsX6_clean) B.pre
  have hown : s.vm.findClass RX6 = some m.cls := findClass_of_methodNamed B.named
  have hlocks := B.notSynchronized
  have hinX5 : ∀ w ∈ wsX50, w ∈ wsX6_clean := by decide +kernel
  have lk134 := hts (.fieldLink RX6 134 "DyehouseLedger$Vat" "light" "I") (by decide +kernel)
  have lk137 := hts (.fieldLink RX6 137 "DyehouseLedger$Vat" "clock" "I") (by decide +kernel)
  have lk158 := hts (.fieldLink RX6 158 "DyehouseLedger$Vat" "cleanings" "I") (by decide +kernel)
  have lk167 := hts (.fieldLink RX6 167 "DyehouseLedger$Vat" "onlyCustomer" "I") (by decide +kernel)
  have hl := lv_entry ([.ref (ad 0 0), .int v]) (n := 3) (Nat.le_of_ble_eq_true rfl)
  rw [lg_entry_eq]
  generalize (lg_sl ([.ref (ad 0 0), .int v]) ++ List.replicate (3 - (lg_sl ([.ref (ad 0 0), .int v])).length) Slot.unset).toArray = ls at hl ⊢
  have hl : lv_has ls 3 [(0, .ref (ad 0 0)), (1, .int v)] := hl
  have hbL := hI.l.1
  have hbO := hI.o.1
  have hbV := hI.v.1
  by_cases kv9 : okV σ v
  · obtain ⟨w, hw, rfl⟩ := vp_in_of ((okV_in hI v).mp kv9) (Nat.lt_of_le_of_lt hI.v.1 (by decide))
    have hbw : nV σ ≤ _ := hI.v.1
    have etw : ti (nI w) = w := ti_nI (by omega)
    refine lv_aload_n hx hb dX6_clean_0 rfl (lv_at hl 0 rfl) ?_
    refine lv_iload_n hx hb dX6_clean_1 rfl (lv_at hl 1 rfl) ?_
    refine xc_v (n := 1) (As := [.int (nI w)]) (rest := []) (v := [.ref (ad 18 w)]) ⟨hx, hb, hml, hown, hts⟩ hE hX ht hlocks (fun q => absurd (show eV σ (nI w) = 0 from if_pos kv9) q) (qX6_vatNumbered la hst g lo ad σ u τ hI (nI w)) gX6_clean_X6_vatNumbered rfl rfl rfl (by decide +kernel) ⟨Nat.le_of_ble_eq_true rfl, Nat.le_of_ble_eq_true rfl⟩ rfl hl.1 rfl (Nat.le_of_ble_eq_true rfl) dX6_clean_2 ⟨Nat.le_of_ble_eq_true rfl, Nat.le_of_ble_eq_true rfl⟩ ⟨Nat.le_of_ble_eq_true rfl, Nat.le_of_ble_eq_true rfl⟩ (fun _ => congrArg (fun z => [Value.ref (ad 18 z)]) (ti_nI (by omega))) (fun h_1 => ?_)
    refine lv_astore_n (lv' := [(2, .ref (ad 18 w)), (0, .ref (ad 0 0)), (1, .int (nI w))]) hx hb dX6_clean_5 rfl hl (by decide) rfl (fun ls hl => ?_)
    refine lv_aload_n hx hb dX6_clean_6 rfl (lv_at hl 0 rfl) ?_
    refine lv_iconst (v := (-1)) hx hb dX6_clean_7 (by decide) ?_
    have hS := XS.start (lo := lo) (XR.t0 hX 0)
    have hX := hS.1
    refine sp_put (ref := RX5) (C := RX5) (T := TX5) (N := 6) (ci := 7) (ty := .int) (v := .int (-1)) hx hb hts hinX5 tyX5 tyX5_ok nmX5 hown hK (show va_at g.1 vwCl (ad 18 w, .inr (7, _)) _ from hX 18 w hw) rfl 2 (by decide) lk134 (fun _ h => h) rfl (by decide +kernel) rfl rfl (show 2 < 6 from by decide) dX6_clean_8 (fun H1 j1 h1 h2 h3 => ?_)
    have hS := hS.upd hA (K := 18) (i := w) hw (σ' := (up (up σ 0 0 0) 23 w (-1))) (u' := u) (τ' := τ) h1 h2 h3 (loc1 (j := j1)) (xcnt_up _ (by decide) _ _) (by simp [xcont, up, upd, va_rf, etw]) (fun K9 i9 hi9 hne => cont_vat g.2 ad (fun k9 j9 hn => up_off _ _ (by omega)) hne)
    have hX := hS.1
    refine lv_aload_n hx hb dX6_clean_11 rfl (lv_at hl 0 rfl) ?_
    refine lv_iconst (v := (-1)) hx hb dX6_clean_12 (by decide) ?_
    refine sp_put (ref := RX5) (C := RX5) (T := TX5) (N := 6) (ci := 7) (ty := .int) (v := .int (-1)) hx hb hts hinX5 tyX5 tyX5_ok nmX5 hown hK (show va_at g.1 vwCl (ad 18 w, .inr (7, _)) _ from hX 18 w hw) rfl 3 (by decide) lk167 (fun _ h => h) rfl (by decide +kernel) rfl rfl (show 3 < 6 from by decide) dX6_clean_13 (fun H1 j1 h1 h2 h3 => ?_)
    have hS := hS.upd hA (K := 18) (i := w) hw (σ' := (up (up (up σ 0 0 0) 23 w (-1)) 24 w (-1))) (u' := u) (τ' := τ) h1 h2 h3 (loc1 (j := j1)) (xcnt_up _ (by decide) _ _) (by simp [xcont, up, upd, va_rf, etw]) (fun K9 i9 hi9 hne => cont_vat g.2 ad (fun k9 j9 hn => up_off _ _ (by omega)) hne)
    have hX := hS.1
    refine lv_aload_n hx hb dX6_clean_16 rfl (lv_at hl 0 rfl) ?_
    refine lv_dup hx hb dX6_clean_17 rfl ?_
    refine x_get (K := 18) (i := w) (v := .int (σ 26 w)) hx hb hts hinX5 hown hK hX hw 5 rfl rfl (by decide) rfl lk158 (by first | rfl | (simp [up, upd]; done)) dX6_clean_18 ?_
    refine lv_iconst (v := 1) hx hb dX6_clean_21 (by decide) ?_
    refine lv_iadd hx hb dX6_clean_22 ?_
    refine sp_put (ref := RX5) (C := RX5) (T := TX5) (N := 6) (ci := 7) (ty := .int) (v := .int ((σ 26 w) + 1)) hx hb hts hinX5 tyX5 tyX5_ok nmX5 hown hK (show va_at g.1 vwCl (ad 18 w, .inr (7, _)) _ from hX 18 w hw) rfl 5 (by decide) lk158 (fun _ h => h) rfl (by decide +kernel) rfl rfl (show 5 < 6 from by decide) dX6_clean_23 (fun H1 j1 h1 h2 h3 => ?_)
    have hS := hS.upd hA (K := 18) (i := w) hw (σ' := (up (up (up (up σ 0 0 0) 23 w (-1)) 24 w (-1)) 26 w ((σ 26 w) + 1))) (u' := u) (τ' := τ) h1 h2 h3 (loc1 (j := j1)) (xcnt_up _ (by decide) _ _) (by simp [xcont, up, upd, va_rf, etw]) (fun K9 i9 hi9 hne => cont_vat g.2 ad (fun k9 j9 hn => up_off _ _ (by omega)) hne)
    have hX := hS.1
    refine lv_aload_n hx hb dX6_clean_26 rfl (lv_at hl 0 rfl) ?_
    refine lv_dup hx hb dX6_clean_27 rfl ?_
    refine x_get (K := 18) (i := w) (v := .int (σ 25 w)) hx hb hts hinX5 hown hK hX hw 4 rfl rfl (by decide) rfl lk137 (by first | rfl | (simp [up, upd]; done)) dX6_clean_28 ?_
    refine lv_iconst (v := 3) hx hb dX6_clean_31 (by decide) ?_
    refine lv_iadd hx hb dX6_clean_32 ?_
    refine sp_put (ref := RX5) (C := RX5) (T := TX5) (N := 6) (ci := 7) (ty := .int) (v := .int ((σ 25 w) + 3)) hx hb hts hinX5 tyX5 tyX5_ok nmX5 hown hK (show va_at g.1 vwCl (ad 18 w, .inr (7, _)) _ from hX 18 w hw) rfl 4 (by decide) lk137 (fun _ h => h) rfl (by decide +kernel) rfl rfl (show 4 < 6 from by decide) dX6_clean_33 (fun H1 j1 h1 h2 h3 => ?_)
    have hS := hS.upd hA (K := 18) (i := w) hw (σ' := (up (up (up (up (up σ 0 0 0) 23 w (-1)) 24 w (-1)) 26 w ((σ 26 w) + 1)) 25 w ((σ 25 w) + 3))) (u' := u) (τ' := τ) h1 h2 h3 (loc1 (j := j1)) (xcnt_up _ (by decide) _ _) (by simp [xcont, up, upd, va_rf, etw]) (fun K9 i9 hi9 hne => cont_vat g.2 ad (fun k9 j9 hn => up_off _ _ (by omega)) hne)
    have hX := hS.1
    refine lv_aload_n hx hb dX6_clean_36 rfl (lv_at hl 0 rfl) ?_
    refine x_get (K := 18) (i := w) (v := .int ((σ 25 w) + 3)) hx hb hts hinX5 hown hK hX hw 4 rfl rfl (by decide) rfl lk137 (by first | rfl | (simp [up, upd]; done)) dX6_clean_37 ?_
    have hS9 := hS.cg (show (up (up (up (up (up σ 0 0 0) 23 w (-1)) 24 w (-1)) 26 w ((σ 26 w) + 1)) 25 w ((σ 25 w) + 3)) = (F_clean σ (nI w)) from (by unfold F_clean; rw [if_pos kv9]; simp only [etw])) (show _ = u from rfl) rfl
    refine vx_ret ?_
    refine W.widen (k := 1) (n := 6) (Nat.le_of_ble_eq_true rfl) (Nat.le_of_ble_eq_true rfl) ?_
    exact W.iret (v := ((σ 25 w) + 3)) hx hb hr (fun t ht9 hW => ⟨(show (exOf 1 0 0 (tV σ (nI w))) = 0 from by rw [show (tV σ (nI w)) = 0 from (by simp only [tD, tL, tV, tO, tW, tLV, tN, t_setDye, t_supply, t_plan, t_unplan, t_dye, okW, etw]; (repeat' split) <;> first | rfl | contradiction | (exfalso; simp_all [-Int32.not_lt, -Int32.not_le]; done))]; rfl), congrArg (fun z => Outcome.returned (some (Value.int z))) (by rw [etw]), by rw [ht9]; exact hS9.1, by rw [ht9]; exact Nat.le_of_eq hS.2.1.symm, fun q _ hq => by first | (rw [ht9]; done) | rw [ht9]; exact hS.2.2.1 q (fun z => hq (by first | exact z | (obtain ⟨K9, i9, a9, b9⟩ := z; refine ⟨K9, i9, ?_, b9⟩; split at a9 <;> exact a9)))⟩) hS.2.2.2 dX6_clean_40
  · refine lv_aload_n hx hb dX6_clean_0 rfl (lv_at hl 0 rfl) ?_
    refine lv_iload_n hx hb dX6_clean_1 rfl (lv_at hl 1 rfl) ?_
    refine xc_v (n := 1) (As := [.int v]) (rest := []) (v := [.ref (ad 18 (ti v))]) ⟨hx, hb, hml, hown, hts⟩ hE hX ht hlocks (fun _ => ((show (exOf 1 0 0 (tV σ v)) = 1 from by rw [show (tV σ v) = 1 from (by simp only [tD, tL, tV, tO, tW, tLV, tN, t_setDye, t_supply, t_plan, t_unplan, t_dye, okW]; (repeat' split) <;> first | rfl | contradiction | (exfalso; simp_all [-Int32.not_lt, -Int32.not_le]; done))]; rfl)).trans (show eV σ v = 1 from if_neg kv9).symm) (qX6_vatNumbered la hst g lo ad σ u τ hI v) gX6_clean_X6_vatNumbered rfl rfl rfl (by decide +kernel) ⟨Nat.le_of_ble_eq_true rfl, Nat.le_of_ble_eq_true rfl⟩ rfl hl.1 rfl (Nat.le_of_ble_eq_true rfl) dX6_clean_2 ⟨Nat.le_of_ble_eq_true rfl, Nat.le_of_ble_eq_true rfl⟩ ⟨Nat.le_of_ble_eq_true rfl, Nat.le_of_ble_eq_true rfl⟩ (fun _ => rfl) (fun h_3 => ?_)
    exact absurd h_3 (by rw [show eV σ v = 1 from if_neg kv9]; decide)
set_option maxHeartbeats 4000000 in
set_option maxRecDepth 100000 in
theorem qX6_judge (la : Launch) (hst : la.stackTraces = false) (g : EG) (lo : Nat) (ad : Nat → Nat → Nat) (σ : Sg) (u : Nat → Int64) (τ : Sg) (hI : INV σ) (hA : XA lo ad σ) (l : Int32) : vx_Met la yX6_judge wsX6_judge ({ frames := 8, cells := 2, slots := 12, locals := 144 } : Room) (va_Pc [.ref (ad 0 0), .int l] (fun U => XR g ad σ u τ U.heap ∧ EV g lo U)) (QXM (exOf 1 3 0 (tN σ l 100)) (.returned (some (.int (if f_judged σ l = 112 then 1 else 0)))) (fun H9 => XR g ad (F_judge σ l) u τ H9) (xown ad σ)) (XX (exOf 1 3 0 (tN σ l 100))) 2 12 (fun q => lo ≤ q) := by
  refine vx_ofW (cc := cX6_judge) (maxL := 3) (ret := (some .boolean)) (by decide) rfl ?_
  intro p e s m args below meth c s₁ B hml ht hv
  obtain ⟨rfl, hX, hE⟩ := hv
  have hK := hE.1
  have hx := B.exec
  have hb := B.bytes
  have hr := B.returns
  have hts := atoms_spec (ws := wsX6_judge) B.pre
  have hown : s.vm.findClass RX6 = some m.cls := findClass_of_methodNamed B.named
  have hlocks := B.notSynchronized
  have hinX0 : ∀ w ∈ wsX00, w ∈ wsX6_judge := by decide +kernel
  have lk147 := hts (.fieldLink RX6 147 "DyehouseLedger$Lot" "state" "C") (by decide +kernel)
  have hl := lv_entry ([.ref (ad 0 0), .int l]) (n := 3) (Nat.le_of_ble_eq_true rfl)
  rw [lg_entry_eq]
  generalize (lg_sl ([.ref (ad 0 0), .int l]) ++ List.replicate (3 - (lg_sl ([.ref (ad 0 0), .int l])).length) Slot.unset).toArray = ls at hl ⊢
  have hl : lv_has ls 3 [(0, .ref (ad 0 0)), (1, .int l)] := hl
  have hbL := hI.l.1
  have hbO := hI.o.1
  have hbV := hI.v.1
  by_cases kl9 : okL σ l
  · obtain ⟨i, hi, rfl⟩ := vp_in_of ((okL_in hI l).mp kl9) (Nat.lt_of_le_of_lt hI.l.1 (by decide))
    have hbi : nL σ ≤ _ := hI.l.1
    have eti : ti (nI i) = i := ti_nI (by omega)
    refine lv_aload_n hx hb dX6_judge_0 rfl (lv_at hl 0 rfl) ?_
    refine lv_iload_n hx hb dX6_judge_1 rfl (lv_at hl 1 rfl) ?_
    refine xc_v (n := 1) (As := [.int (nI i)]) (rest := []) (v := [.ref (ad 16 i)]) ⟨hx, hb, hml, hown, hts⟩ hE hX ht hlocks (fun q => by have h9 : ¬ (σ 21 i = 100) := fun z => q (by unfold eDy; rw [ti_nI (by omega), if_pos kl9]; exact if_pos z); exact (show (exOf 1 3 0 (tN σ (nI i) 100)) = 3 from by rw [show (tN σ (nI i) 100) = 2 from (by simp only [tD, tL, tV, tO, tW, tLV, tN, t_setDye, t_supply, t_plan, t_unplan, t_dye, okW, eti]; (repeat' split) <;> first | rfl | contradiction | (exfalso; simp_all [-Int32.not_lt, -Int32.not_le]; done))]; rfl).trans (show eDy σ (nI i) = 3 from by unfold eDy; rw [ti_nI (by omega), if_pos kl9]; exact if_neg h9).symm) (qX6_dyedLotNumbered la hst g lo ad σ u τ hI (nI i)) gX6_judge_X6_dyedLotNumbered rfl rfl rfl (by decide +kernel) ⟨Nat.le_of_ble_eq_true rfl, Nat.le_of_ble_eq_true rfl⟩ rfl hl.1 rfl (Nat.le_of_ble_eq_true rfl) dX6_judge_2 ⟨Nat.le_of_ble_eq_true rfl, Nat.le_of_ble_eq_true rfl⟩ ⟨Nat.le_of_ble_eq_true rfl, Nat.le_of_ble_eq_true rfl⟩ (fun _ => congrArg (fun z => [Value.ref (ad 16 z)]) (ti_nI (by omega))) (fun h_1 => ?_)
    have hsi : σ 21 i = 100 := eDy0 hI hi h_1
    refine lv_astore_n (lv' := [(2, .ref (ad 16 i)), (0, .ref (ad 0 0)), (1, .int (nI i))]) hx hb dX6_judge_5 rfl hl (by decide) rfl (fun ls hl => ?_)
    refine lv_aload_n hx hb dX6_judge_6 rfl (lv_at hl 1 rfl) ?_
    refine lv_aload_n hx hb dX6_judge_7 rfl (lv_at hl 0 rfl) ?_
    refine xc_ro (n := 1) (K := 0) (i := 0) (As := [.ref (ad 16 i)]) (rest := []) (v := [.int (f_judged σ (nI i))]) ⟨hx, hb, hml, hown, hts⟩ hK hX (show 0 < 1 from Nat.zero_lt_one) rfl rfl (qX6_verdictOn la g ad σ u τ hI lo hA i hi) gX6_judge_X6_verdictOn rfl rfl rfl (by decide +kernel) ⟨Nat.le_of_ble_eq_true rfl, Nat.le_of_ble_eq_true rfl⟩ rfl hl.1 rfl (Nat.le_of_ble_eq_true rfl) dX6_judge_8 ⟨Nat.le_of_ble_eq_true rfl, Nat.le_of_ble_eq_true rfl⟩ rfl ?_
    refine lv_bipush (v := 112) hx hb dX6_judge_11 (by decide) ?_
    refine lv_icmp_eq (tgt := 24) hx hb dX6_judge_13 (by decide) (fun c_2 => ?_) (fun c_2 => ?_)
    · refine lv_aload_n hx hb dX6_judge_24 rfl (lv_at hl 0 rfl) ?_
      refine lv_bipush (v := 112) hx hb dX6_judge_25 (by decide) ?_
      have hS := XS.start (lo := lo) (XR.t0 hX 0)
      have hX := hS.1
      refine sp_put (ref := RX0) (C := RX0) (T := TX0) (N := 9) (ci := 2) (ty := .char) (v := .int 112) hx hb hts hinX0 tyX0 tyX0_ok nmX0 hown hK (show va_at g.1 vwCl (ad 16 i, .inr (2, _)) _ from hX 16 i hi) rfl 4 (by decide) lk147 (fun _ h => h) rfl (by decide +kernel) rfl rfl (show 4 < 9 from by decide) dX6_judge_27 (fun H1 j1 h1 h2 h3 => ?_)
      have hS := hS.upd hA (K := 16) (i := i) hi (σ' := (up (up σ 0 0 0) 21 i 112)) (u' := u) (τ' := τ) h1 h2 h3 (loc1 (j := j1)) (xcnt_up _ (by decide) _ _) (by simp [xcont, up, upd, va_rf, eti, hsi]) (fun K9 i9 hi9 hne => cont_lot g.2 ad (fun k9 j9 hn => up_off _ _ (by omega)) hne)
      have hX := hS.1
      refine lv_aload_n hx hb dX6_judge_30 rfl (lv_at hl 0 rfl) ?_
      refine xs_mu (n := 1) (As := [.ref (ad 16 i)]) (rest := []) (v := []) ⟨hx, hb, hml, hown, hts⟩ hK hS (qX6_barVatOf la g lo ad (up (up σ 0 0 0) 21 i 112) u τ hA i hi (vin_lt (hI.2.2.1 _ hi)) (vin_lt (hI.2.2.2.2.2.1 _ hi (by rw [hsi]; decide))) (by rw [up_on]; decide)) gX6_judge_X6_barVatOf rfl rfl rfl (by decide +kernel) ⟨Nat.le_of_ble_eq_true rfl, Nat.le_of_ble_eq_true rfl⟩ rfl hl.1 rfl (Nat.le_of_ble_eq_true rfl) dX6_judge_31 ⟨Nat.le_of_ble_eq_true rfl, Nat.le_of_ble_eq_true rfl⟩ rfl (by split <;> rfl) (fun H1 locs1 hS => ?_)
      replace hS : XS g lo ad (if (up (up σ 0 0 0) 21 i 112) 19 i = (up (up σ 0 0 0) 21 i 112) 26 (ti ((up (up σ 0 0 0) 21 i 112) 17 i)) then up (up (up σ 0 0 0) 21 i 112) 24 (ti ((up (up σ 0 0 0) 21 i 112) 17 i)) ((up (up σ 0 0 0) 21 i 112) 9 (ti ((up (up σ 0 0 0) 21 i 112) 14 i))) else (up (up σ 0 0 0) 21 i 112)) u τ s.heap H1 locs1 := hS
      have hX := hS.1
      refine lv_iconst (v := 1) hx hb dX6_judge_34 (by decide) ?_
      have hS9 := hS.cg (show (if (up (up σ 0 0 0) 21 i 112) 19 i = (up (up σ 0 0 0) 21 i 112) 26 (ti ((up (up σ 0 0 0) 21 i 112) 17 i)) then up (up (up σ 0 0 0) 21 i 112) 24 (ti ((up (up σ 0 0 0) 21 i 112) 17 i)) ((up (up σ 0 0 0) 21 i 112) 9 (ti ((up (up σ 0 0 0) 21 i 112) 14 i))) else (up (up σ 0 0 0) 21 i 112)) = (F_judge σ (nI i)) from (by simp only [F_judge, f_cust, eti]; first | exact ((if_pos ⟨kl9, hsi⟩).trans (if_neg (by assumption))).symm | exact ((if_pos ⟨kl9, hsi⟩).trans (if_pos (by assumption))).symm)) (show _ = u from rfl) rfl
      refine vx_ret ?_
      refine W.widen (k := 2) (n := 12) (Nat.le_of_ble_eq_true rfl) (Nat.le_of_ble_eq_true rfl) ?_
      exact W.zret (v := 1) hx hb hr rfl (fun t ht9 hW => ⟨(show (exOf 1 3 0 (tN σ (nI i) 100)) = 0 from by rw [show (tN σ (nI i) 100) = 0 from (by simp only [tD, tL, tV, tO, tW, tLV, tN, t_setDye, t_supply, t_plan, t_unplan, t_dye, okW, eti]; (repeat' split) <;> first | rfl | contradiction | (exfalso; simp_all [-Int32.not_lt, -Int32.not_le]; done))]; rfl), congrArg (fun z => Outcome.returned (some (Value.int z))) (by first | exact (if_pos (by assumption)).symm | exact (if_neg (by assumption)).symm), by rw [ht9]; exact hS9.1, by rw [ht9]; exact Nat.le_of_eq hS.2.1.symm, fun q _ hq => by first | (rw [ht9]; done) | rw [ht9]; exact hS.2.2.1 q (fun z => hq (by first | exact z | (obtain ⟨K9, i9, a9, b9⟩ := z; refine ⟨K9, i9, ?_, b9⟩; split at a9 <;> exact a9)))⟩) hS.2.2.2 dX6_judge_35
    · refine lv_aload_n hx hb dX6_judge_16 rfl (lv_at hl 0 rfl) ?_
      refine lv_bipush (v := 120) hx hb dX6_judge_17 (by decide) ?_
      have hS := XS.start (lo := lo) (XR.t0 hX 0)
      have hX := hS.1
      refine sp_put (ref := RX0) (C := RX0) (T := TX0) (N := 9) (ci := 2) (ty := .char) (v := .int 120) hx hb hts hinX0 tyX0 tyX0_ok nmX0 hown hK (show va_at g.1 vwCl (ad 16 i, .inr (2, _)) _ from hX 16 i hi) rfl 4 (by decide) lk147 (fun _ h => h) rfl (by decide +kernel) rfl rfl (show 4 < 9 from by decide) dX6_judge_19 (fun H1 j1 h1 h2 h3 => ?_)
      have hS := hS.upd hA (K := 16) (i := i) hi (σ' := (up (up σ 0 0 0) 21 i 120)) (u' := u) (τ' := τ) h1 h2 h3 (loc1 (j := j1)) (xcnt_up _ (by decide) _ _) (by simp [xcont, up, upd, va_rf, eti, hsi]) (fun K9 i9 hi9 hne => cont_lot g.2 ad (fun k9 j9 hn => up_off _ _ (by omega)) hne)
      have hX := hS.1
      refine lv_iconst (v := 0) hx hb dX6_judge_22 (by decide) ?_
      have hS9 := hS.cg (show (up (up σ 0 0 0) 21 i 120) = (F_judge σ (nI i)) from (by simp only [F_judge, f_cust, eti]; first | exact ((if_pos ⟨kl9, hsi⟩).trans (if_neg (by assumption))).symm | exact ((if_pos ⟨kl9, hsi⟩).trans (if_pos (by assumption))).symm)) (show _ = u from rfl) rfl
      refine vx_ret ?_
      refine W.widen (k := 2) (n := 12) (Nat.le_of_ble_eq_true rfl) (Nat.le_of_ble_eq_true rfl) ?_
      exact W.zret (v := 0) hx hb hr rfl (fun t ht9 hW => ⟨(show (exOf 1 3 0 (tN σ (nI i) 100)) = 0 from by rw [show (tN σ (nI i) 100) = 0 from (by simp only [tD, tL, tV, tO, tW, tLV, tN, t_setDye, t_supply, t_plan, t_unplan, t_dye, okW, eti]; (repeat' split) <;> first | rfl | contradiction | (exfalso; simp_all [-Int32.not_lt, -Int32.not_le]; done))]; rfl), congrArg (fun z => Outcome.returned (some (Value.int z))) (by first | exact (if_pos (by assumption)).symm | exact (if_neg (by assumption)).symm), by rw [ht9]; exact hS9.1, by rw [ht9]; exact Nat.le_of_eq hS.2.1.symm, fun q _ hq => by first | (rw [ht9]; done) | rw [ht9]; exact hS.2.2.1 q (fun z => hq (by first | exact z | (obtain ⟨K9, i9, a9, b9⟩ := z; refine ⟨K9, i9, ?_, b9⟩; split at a9 <;> exact a9)))⟩) hS.2.2.2 dX6_judge_23
  · refine lv_aload_n hx hb dX6_judge_0 rfl (lv_at hl 0 rfl) ?_
    refine lv_iload_n hx hb dX6_judge_1 rfl (lv_at hl 1 rfl) ?_
    refine xc_v (n := 1) (As := [.int l]) (rest := []) (v := [.ref (ad 16 (ti l))]) ⟨hx, hb, hml, hown, hts⟩ hE hX ht hlocks (fun _ => ((show (exOf 1 3 0 (tN σ l 100)) = 1 from by rw [show (tN σ l 100) = 1 from (by simp only [tD, tL, tV, tO, tW, tLV, tN, t_setDye, t_supply, t_plan, t_unplan, t_dye, okW]; (repeat' split) <;> first | rfl | contradiction | (exfalso; simp_all [-Int32.not_lt, -Int32.not_le]; done))]; rfl)).trans (show eDy σ l = 1 from if_neg kl9).symm) (qX6_dyedLotNumbered la hst g lo ad σ u τ hI l) gX6_judge_X6_dyedLotNumbered rfl rfl rfl (by decide +kernel) ⟨Nat.le_of_ble_eq_true rfl, Nat.le_of_ble_eq_true rfl⟩ rfl hl.1 rfl (Nat.le_of_ble_eq_true rfl) dX6_judge_2 ⟨Nat.le_of_ble_eq_true rfl, Nat.le_of_ble_eq_true rfl⟩ ⟨Nat.le_of_ble_eq_true rfl, Nat.le_of_ble_eq_true rfl⟩ (fun _ => rfl) (fun h_4 => ?_)
    exact absurd h_4 (by rw [show eDy σ l = 1 from if_neg kl9]; decide)
theorem tw_inX6_again_3 : ∀ w ∈ (vx_at0 RX6 58 (en 3) exN).filter goodWord, w ∈ wsX6_again := by decide +kernel
set_option maxHeartbeats 4000000 in
set_option maxRecDepth 100000 in
theorem qX6_again (la : Launch) (hst : la.stackTraces = false) (g : EG) (lo : Nat) (ad : Nat → Nat → Nat) (σ : Sg) (u : Nat → Int64) (τ : Sg) (hI : INV σ) (hA : XA lo ad σ) (l : Int32) : vx_Met la yX6_again wsX6_again ({ frames := 7, cells := 2, slots := 12, locals := 122 } : Room) (va_Pc [.ref (ad 0 0), .int l] (fun U => XR g ad σ u τ U.heap ∧ EV g lo U)) (QXM (exOf 1 3 0 (tN σ l 120)) (.returned (some (.int (f_waiting (up (up σ 0 0 0) 21 (ti l) 119))))) (fun H9 => XR g ad (F_again σ l) u τ H9) (xown ad σ)) (XX (exOf 1 3 0 (tN σ l 120))) 2 12 (fun q => lo ≤ q) := by
  refine vx_ofW (cc := cX6_again) (maxL := 3) (ret := (some .int)) (by decide) rfl ?_
  intro p e s m args below meth c s₁ B hml ht hv
  obtain ⟨rfl, hX, hE⟩ := hv
  have hK := hE.1
  have hx := B.exec
  have hb := B.bytes
  have hr := B.returns
  have hts := atoms_spec (ws := wsX6_again) B.pre
  have hown : s.vm.findClass RX6 = some m.cls := findClass_of_methodNamed B.named
  have hlocks := B.notSynchronized
  have hinX0 : ∀ w ∈ wsX00, w ∈ wsX6_again := by decide +kernel
  have lk147 := hts (.fieldLink RX6 147 "DyehouseLedger$Lot" "state" "C") (by decide +kernel)
  have lk151 := hts (.fieldLink RX6 151 "DyehouseLedger$Lot" "vat" "LDyehouseLedger$Vat;") (by decide +kernel)
  have ti3 := hts (.initialized "java/lang/IllegalStateException") (by decide +kernel)
  have tk3 := hts (.classLink RX6 56 "java/lang/IllegalStateException") (by decide +kernel)
  have tw3 : ∀ w ∈ (vx_at0 RX6 58 (en 3) exN).filter goodWord, w.before _ s = true := fun w h => hts w (tw_inX6_again_3 w h)
  have hl := lv_entry ([.ref (ad 0 0), .int l]) (n := 3) (Nat.le_of_ble_eq_true rfl)
  rw [lg_entry_eq]
  generalize (lg_sl ([.ref (ad 0 0), .int l]) ++ List.replicate (3 - (lg_sl ([.ref (ad 0 0), .int l])).length) Slot.unset).toArray = ls at hl ⊢
  have hl : lv_has ls 3 [(0, .ref (ad 0 0)), (1, .int l)] := hl
  have hbL := hI.l.1
  have hbO := hI.o.1
  have hbV := hI.v.1
  by_cases kl9 : okL σ l
  · obtain ⟨i, hi, rfl⟩ := vp_in_of ((okL_in hI l).mp kl9) (Nat.lt_of_le_of_lt hI.l.1 (by decide))
    have hbi : nL σ ≤ _ := hI.l.1
    have eti : ti (nI i) = i := ti_nI (by omega)
    refine lv_aload_n hx hb dX6_again_0 rfl (lv_at hl 0 rfl) ?_
    refine lv_iload_n hx hb dX6_again_1 rfl (lv_at hl 1 rfl) ?_
    refine xc_v (n := 1) (As := [.int (nI i)]) (rest := []) (v := [.ref (ad 16 i)]) ⟨hx, hb, hml, hown, hts⟩ hE hX ht hlocks (fun q => absurd (show eL σ (nI i) = 0 from if_pos kl9) q) (qX6_lotNumbered la hst g lo ad σ u τ hI (nI i)) gX6_again_X6_lotNumbered rfl rfl rfl (by decide +kernel) ⟨Nat.le_of_ble_eq_true rfl, Nat.le_of_ble_eq_true rfl⟩ rfl hl.1 rfl (Nat.le_of_ble_eq_true rfl) dX6_again_2 ⟨Nat.le_of_ble_eq_true rfl, Nat.le_of_ble_eq_true rfl⟩ ⟨Nat.le_of_ble_eq_true rfl, Nat.le_of_ble_eq_true rfl⟩ (fun _ => congrArg (fun z => [Value.ref (ad 16 z)]) (ti_nI (by omega))) (fun h_1 => ?_)
    refine lv_astore_n (lv' := [(2, .ref (ad 16 i)), (0, .ref (ad 0 0)), (1, .int (nI i))]) hx hb dX6_again_5 rfl hl (by decide) rfl (fun ls hl => ?_)
    refine lv_aload_n hx hb dX6_again_6 rfl (lv_at hl 0 rfl) ?_
    refine x_get (K := 16) (i := i) (v := .int (σ 21 i)) hx hb hts hinX0 hown hK hX hi 4 rfl rfl (by decide) rfl lk147 rfl dX6_again_7 ?_
    refine lv_bipush (v := 120) hx hb dX6_again_10 (by decide) ?_
    refine lv_icmp_eq (tgt := 23) hx hb dX6_again_12 (by decide) (fun c_2 => ?_) (fun c_2 => ?_)
    · refine lv_aload_n hx hb dX6_again_23 rfl (lv_at hl 0 rfl) ?_
      refine lv_bipush (v := 119) hx hb dX6_again_24 (by decide) ?_
      have hS := XS.start (lo := lo) (XR.t0 hX 0)
      have hX := hS.1
      refine sp_put (ref := RX0) (C := RX0) (T := TX0) (N := 9) (ci := 2) (ty := .char) (v := .int 119) hx hb hts hinX0 tyX0 tyX0_ok nmX0 hown hK (show va_at g.1 vwCl (ad 16 i, .inr (2, _)) _ from hX 16 i hi) rfl 4 (by decide) lk147 (fun _ h => h) rfl (by decide +kernel) rfl rfl (show 4 < 9 from by decide) dX6_again_26 (fun H1 j1 h1 h2 h3 => ?_)
      refine lv_aload_n hx hb dX6_again_29 rfl (lv_at hl 0 rfl) ?_
      refine lv_null hx hb dX6_again_30 ?_
      refine sp_put (ref := RX0) (C := RX0) (T := TX0) (N := 9) (ci := 2) (ty := (.object "DyehouseLedger$Vat")) (v := .null) hx hb hts hinX0 tyX0 tyX0_ok nmX0 hown hK (show va_at g.1 vwCl (ad 16 i, .inr (2, _)) _ from h1) rfl 5 (by decide) lk151 (fun _ h => h) rfl (by decide +kernel) rfl rfl (show 5 < 9 from by decide) dX6_again_31 (fun H1 j2 g1 g2 g3 => ?_)
      have hS := hS.upd hA (K := 16) (i := i) hi (σ' := (up (up σ 0 0 0) 21 i 119)) (u' := u) (τ' := τ) g1 (g2.trans h2) (fun q hq => (g3 q hq).trans (h3 q hq)) (loc2 (j := j1) (k := j2)) (xcnt_up _ (by decide) _ _) (by simp [xcont, up, upd, va_rf, eti]) (fun K9 i9 hi9 hne => cont_lot g.2 ad (fun k9 j9 hn => up_off _ _ (by omega)) hne)
      have hX := hS.1
      refine lv_aload_n hx hb dX6_again_34 rfl (lv_at hl 1 rfl) ?_
      refine lv_bipush (v := 119) hx hb dX6_again_35 (by decide) ?_
      refine xc_ro (n := 1) (K := 0) (i := 0) (As := [.int 119]) (rest := []) (v := [.int (c_st (up (up σ 0 0 0) 21 i 119) 119 (nL (up (up σ 0 0 0) 21 i 119)))]) ⟨hx, hb, hml, hown, hts⟩ hK hX (show 0 < 1 from Nat.zero_lt_one) rfl rfl (qX6_lotsInState la g ad (up (up σ 0 0 0) 21 i 119) u τ (INV_again (hI.u0 0 0) (by assumption)) 119) gX6_again_X6_lotsInState rfl rfl rfl (by decide +kernel) ⟨Nat.le_of_ble_eq_true rfl, Nat.le_of_ble_eq_true rfl⟩ rfl hl.1 rfl (Nat.le_of_ble_eq_true rfl) dX6_again_37 ⟨Nat.le_of_ble_eq_true rfl, Nat.le_of_ble_eq_true rfl⟩ rfl ?_
      have hS9 := hS.cg (show (up (up σ 0 0 0) 21 i 119) = (F_again σ (nI i)) from (by simp only [F_again, eti]; rw [if_pos ⟨kl9, by assumption⟩])) (show _ = u from rfl) rfl
      refine vx_ret ?_
      refine W.widen (k := 2) (n := 12) (Nat.le_of_ble_eq_true rfl) (Nat.le_of_ble_eq_true rfl) ?_
      exact W.iret (v := (c_st (up (up σ 0 0 0) 21 i 119) 119 (nL (up (up σ 0 0 0) 21 i 119)))) hx hb hr (fun t ht9 hW => ⟨(show (exOf 1 3 0 (tN σ (nI i) 120)) = 0 from by rw [show (tN σ (nI i) 120) = 0 from (by simp only [tD, tL, tV, tO, tW, tLV, tN, t_setDye, t_supply, t_plan, t_unplan, t_dye, okW, eti]; (repeat' split) <;> first | rfl | contradiction | (exfalso; simp_all [-Int32.not_lt, -Int32.not_le]; done))]; rfl), congrArg (fun z => Outcome.returned (some (Value.int z))) (by rw [eti]; rfl), by rw [ht9]; exact hS9.1, by rw [ht9]; exact Nat.le_of_eq hS.2.1.symm, fun q _ hq => by first | (rw [ht9]; done) | rw [ht9]; exact hS.2.2.1 q (fun z => hq (by first | exact z | (obtain ⟨K9, i9, a9, b9⟩ := z; refine ⟨K9, i9, ?_, b9⟩; split at a9 <;> exact a9)))⟩) hS.2.2.2 dX6_again_40
    · exact x_throw (k9 := 3) (ic := 58) hx hb hst hown hE ht hlocks (hl.1.trans hml.symm) (fun _ _ _ => trivial) (by decide) tk3 ti3 tw3 bad3 good3 (by decide) (show (exOf 1 3 0 (tN σ (nI i) 120)) = 3 from by rw [show (tN σ (nI i) 120) = 2 from (by simp only [tD, tL, tV, tO, tW, tLV, tN, t_setDye, t_supply, t_plan, t_unplan, t_dye, okW, eti]; (repeat' split) <;> first | rfl | contradiction | (exfalso; simp_all [-Int32.not_lt, -Int32.not_le]; done))]; rfl) dX6_again_15 dX6_again_18 dX6_again_19 dX6_again_22 (Nat.le_of_ble_eq_true rfl) (Nat.le_of_ble_eq_true rfl) (Nat.le_of_ble_eq_true rfl) (Nat.le_of_ble_eq_true rfl) (Nat.le_of_ble_eq_true rfl) (Nat.le_of_ble_eq_true rfl)
  · refine lv_aload_n hx hb dX6_again_0 rfl (lv_at hl 0 rfl) ?_
    refine lv_iload_n hx hb dX6_again_1 rfl (lv_at hl 1 rfl) ?_
    refine xc_v (n := 1) (As := [.int l]) (rest := []) (v := [.ref (ad 16 (ti l))]) ⟨hx, hb, hml, hown, hts⟩ hE hX ht hlocks (fun _ => ((show (exOf 1 3 0 (tN σ l 120)) = 1 from by rw [show (tN σ l 120) = 1 from (by simp only [tD, tL, tV, tO, tW, tLV, tN, t_setDye, t_supply, t_plan, t_unplan, t_dye, okW]; (repeat' split) <;> first | rfl | contradiction | (exfalso; simp_all [-Int32.not_lt, -Int32.not_le]; done))]; rfl)).trans (show eL σ l = 1 from if_neg kl9).symm) (qX6_lotNumbered la hst g lo ad σ u τ hI l) gX6_again_X6_lotNumbered rfl rfl rfl (by decide +kernel) ⟨Nat.le_of_ble_eq_true rfl, Nat.le_of_ble_eq_true rfl⟩ rfl hl.1 rfl (Nat.le_of_ble_eq_true rfl) dX6_again_2 ⟨Nat.le_of_ble_eq_true rfl, Nat.le_of_ble_eq_true rfl⟩ ⟨Nat.le_of_ble_eq_true rfl, Nat.le_of_ble_eq_true rfl⟩ (fun _ => rfl) (fun h_4 => ?_)
    exact absurd h_4 (by rw [show eL σ l = 1 from if_neg kl9]; decide)
theorem tw_inX6_plan_3 : ∀ w ∈ (vx_at0 RX6 58 (en 3) exN).filter goodWord, w ∈ wsX6_plan := by decide +kernel
theorem tw_inX6_plan_4 : ∀ w ∈ (vx_at0 RX6 129 (en 4) exN).filter goodWord, w ∈ wsX6_plan := by decide +kernel
set_option maxHeartbeats 4000000 in
set_option maxRecDepth 100000 in
theorem qX6_plan (la : Launch) (hst : la.stackTraces = false) (g : EG) (lo : Nat) (ad : Nat → Nat → Nat) (σ : Sg) (u : Nat → Int64) (τ : Sg) (hI : INV σ) (hA : XA lo ad σ) (l v : Int32) : vx_Met la yX6_plan wsX6_plan ({ frames := 7, cells := 3, slots := 18, locals := 122 } : Room) (va_Pc [.ref (ad 0 0), .int l, .int v] (fun U => XR g ad σ u τ U.heap ∧ EV g lo U)) (QXM (exOf 1 3 4 (t_plan σ l v)) (.returned (some (.int (f_inPlan σ v + 1)))) (fun H9 => XR g ad (F_plan σ l v) u τ H9) (xown ad σ)) (XX (exOf 1 3 4 (t_plan σ l v))) 3 18 (fun q => lo ≤ q) := by
  refine vx_ofW (cc := cX6_plan) (maxL := 6) (ret := (some .int)) (by decide) rfl ?_
  intro p e s m args below meth c s₁ B hml ht hv
  obtain ⟨rfl, hX, hE⟩ := hv
  have hK := hE.1
  have hx := B.exec
  have hb := B.bytes
  have hr := B.returns
  have hts := atoms_spec (ws := wsX6_plan) B.pre
  have hown : s.vm.findClass RX6 = some m.cls := findClass_of_methodNamed B.named
  have hlocks := B.notSynchronized
  have hinX0 : ∀ w ∈ wsX00, w ∈ wsX6_plan := by decide +kernel
  have hinX5 : ∀ w ∈ wsX50, w ∈ wsX6_plan := by decide +kernel
  have lk147 := hts (.fieldLink RX6 147 "DyehouseLedger$Lot" "state" "C") (by decide +kernel)
  have lk164 := hts (.fieldLink RX6 164 "DyehouseLedger$Lot" "plannedFor" "LDyehouseLedger$Vat;") (by decide +kernel)
  have lk188 := hts (.fieldLink RX6 188 "DyehouseLedger$Lot" "weight" "I") (by decide +kernel)
  have lk191 := hts (.fieldLink RX6 191 "DyehouseLedger$Vat" "mostWeight" "I") (by decide +kernel)
  have ti3 := hts (.initialized "java/lang/IllegalStateException") (by decide +kernel)
  have ti4 := hts (.initialized "java/lang/UnsupportedOperationException") (by decide +kernel)
  have tk3 := hts (.classLink RX6 56 "java/lang/IllegalStateException") (by decide +kernel)
  have tk4 := hts (.classLink RX6 127 "java/lang/UnsupportedOperationException") (by decide +kernel)
  have tw3 : ∀ w ∈ (vx_at0 RX6 58 (en 3) exN).filter goodWord, w.before _ s = true := fun w h => hts w (tw_inX6_plan_3 w h)
  have tw4 : ∀ w ∈ (vx_at0 RX6 129 (en 4) exN).filter goodWord, w.before _ s = true := fun w h => hts w (tw_inX6_plan_4 w h)
  have hl := lv_entry ([.ref (ad 0 0), .int l, .int v]) (n := 6) (Nat.le_of_ble_eq_true rfl)
  rw [lg_entry_eq]
  generalize (lg_sl ([.ref (ad 0 0), .int l, .int v]) ++ List.replicate (6 - (lg_sl ([.ref (ad 0 0), .int l, .int v])).length) Slot.unset).toArray = ls at hl ⊢
  have hl : lv_has ls 6 [(0, .ref (ad 0 0)), (1, .int l), (2, .int v)] := hl
  have hbL := hI.l.1
  have hbO := hI.o.1
  have hbV := hI.v.1
  by_cases kl9 : okL σ l
  · obtain ⟨i, hi, rfl⟩ := vp_in_of ((okL_in hI l).mp kl9) (Nat.lt_of_le_of_lt hI.l.1 (by decide))
    have hbi : nL σ ≤ _ := hI.l.1
    have eti : ti (nI i) = i := ti_nI (by omega)
    by_cases kv9 : okV σ v
    · obtain ⟨w, hw, rfl⟩ := vp_in_of ((okV_in hI v).mp kv9) (Nat.lt_of_le_of_lt hI.v.1 (by decide))
      have hbw : nV σ ≤ _ := hI.v.1
      have etw : ti (nI w) = w := ti_nI (by omega)
      refine lv_aload_n hx hb dX6_plan_0 rfl (lv_at hl 0 rfl) ?_
      refine lv_iload_n hx hb dX6_plan_1 rfl (lv_at hl 1 rfl) ?_
      refine xc_v (n := 1) (As := [.int (nI i)]) (rest := []) (v := [.ref (ad 16 i)]) ⟨hx, hb, hml, hown, hts⟩ hE hX ht hlocks (fun q => absurd (show eL σ (nI i) = 0 from if_pos kl9) q) (qX6_lotNumbered la hst g lo ad σ u τ hI (nI i)) gX6_plan_X6_lotNumbered rfl rfl rfl (by decide +kernel) ⟨Nat.le_of_ble_eq_true rfl, Nat.le_of_ble_eq_true rfl⟩ rfl hl.1 rfl (Nat.le_of_ble_eq_true rfl) dX6_plan_2 ⟨Nat.le_of_ble_eq_true rfl, Nat.le_of_ble_eq_true rfl⟩ ⟨Nat.le_of_ble_eq_true rfl, Nat.le_of_ble_eq_true rfl⟩ (fun _ => congrArg (fun z => [Value.ref (ad 16 z)]) (ti_nI (by omega))) (fun h_1 => ?_)
      refine lv_astore_n (lv' := [(3, .ref (ad 16 i)), (0, .ref (ad 0 0)), (1, .int (nI i)), (2, .int (nI w))]) hx hb dX6_plan_5 rfl hl (by decide) rfl (fun ls hl => ?_)
      refine lv_aload_n hx hb dX6_plan_6 rfl (lv_at hl 1 rfl) ?_
      refine lv_iload_n hx hb dX6_plan_7 rfl (lv_at hl 3 rfl) ?_
      refine xc_v (n := 1) (As := [.int (nI w)]) (rest := []) (v := [.ref (ad 18 w)]) ⟨hx, hb, hml, hown, hts⟩ hE hX ht hlocks (fun q => absurd (show eV σ (nI w) = 0 from if_pos kv9) q) (qX6_vatNumbered la hst g lo ad σ u τ hI (nI w)) gX6_plan_X6_vatNumbered rfl rfl rfl (by decide +kernel) ⟨Nat.le_of_ble_eq_true rfl, Nat.le_of_ble_eq_true rfl⟩ rfl hl.1 rfl (Nat.le_of_ble_eq_true rfl) dX6_plan_8 ⟨Nat.le_of_ble_eq_true rfl, Nat.le_of_ble_eq_true rfl⟩ ⟨Nat.le_of_ble_eq_true rfl, Nat.le_of_ble_eq_true rfl⟩ (fun _ => congrArg (fun z => [Value.ref (ad 18 z)]) (ti_nI (by omega))) (fun h_2 => ?_)
      refine lv_astore (lv' := [(4, .ref (ad 18 w)), (3, .ref (ad 16 i)), (0, .ref (ad 0 0)), (1, .int (nI i)), (2, .int (nI w))]) hx hb dX6_plan_11 hl (by decide) rfl (fun ls hl => ?_)
      have hw1 : ¬ nI w = -1 := nI_ne1 (by omega)
      refine lv_aload_n hx hb dX6_plan_13 rfl (lv_at hl 2 rfl) ?_
      refine lv_aload hx hb dX6_plan_14 (lv_at hl 0 rfl) ?_
      refine xc_ro (n := 1) (K := 0) (i := 0) (As := [.ref (ad 18 w)]) (rest := []) (v := [.int (f_inPlan σ (nI w))]) ⟨hx, hb, hml, hown, hts⟩ hK hX (show 0 < 1 from Nat.zero_lt_one) rfl rfl (qX6_plannedLots la g ad σ u τ hI lo hA w hw) gX6_plan_X6_plannedLots rfl rfl rfl (by decide +kernel) ⟨Nat.le_of_ble_eq_true rfl, Nat.le_of_ble_eq_true rfl⟩ rfl hl.1 rfl (Nat.le_of_ble_eq_true rfl) dX6_plan_16 ⟨Nat.le_of_ble_eq_true rfl, Nat.le_of_ble_eq_true rfl⟩ rfl ?_
      refine lv_istore (lv' := [(5, .int (f_inPlan σ (nI w))), (4, .ref (ad 18 w)), (3, .ref (ad 16 i)), (0, .ref (ad 0 0)), (1, .int (nI i)), (2, .int (nI w))]) hx hb dX6_plan_19 hl (by decide) rfl (fun ls hl => ?_)
      refine lv_aload_n hx hb dX6_plan_21 rfl (lv_at hl 2 rfl) ?_
      refine x_get (K := 16) (i := i) (v := .int (σ 21 i)) hx hb hts hinX0 hown hK hX hi 4 rfl rfl (by decide) rfl lk147 rfl dX6_plan_22 ?_
      refine lv_bipush (v := 119) hx hb dX6_plan_25 (by decide) ?_
      refine lv_icmp_ne (tgt := 44) hx hb dX6_plan_27 (by decide) (fun c_3 => ?_) (fun c_3 => ?_)
      · exact x_throw (k9 := 3) (ic := 58) hx hb hst hown hE ht hlocks (hl.1.trans hml.symm) (fun _ _ _ => trivial) (by decide) tk3 ti3 tw3 bad3 good3 (by decide) (show (exOf 1 3 4 (t_plan σ (nI i) (nI w))) = 3 from by rw [show (t_plan σ (nI i) (nI w)) = 2 from (by simp only [tD, tL, tV, tO, tW, tLV, tN, t_setDye, t_supply, t_plan, t_unplan, t_dye, okW, eti, etw]; (repeat' split) <;> first | rfl | contradiction | (exfalso; simp_all [-Int32.not_lt, -Int32.not_le]; done))]; rfl) dX6_plan_44 dX6_plan_47 dX6_plan_48 dX6_plan_51 (Nat.le_of_ble_eq_true rfl) (Nat.le_of_ble_eq_true rfl) (Nat.le_of_ble_eq_true rfl) (Nat.le_of_ble_eq_true rfl) (Nat.le_of_ble_eq_true rfl) (Nat.le_of_ble_eq_true rfl)
      · refine lv_aload_n hx hb dX6_plan_30 rfl (lv_at hl 2 rfl) ?_
        by_cases z_4 : σ 20 i = -1
        · refine x_get (K := 16) (i := i) (v := .null) hx hb hts hinX0 hown hK hX hi 8 rfl rfl (by decide) rfl lk164 (congrArg some (opt_no z_4)) dX6_plan_31 ?_
          refine lv_ifnonnullN hx hb dX6_plan_34 ?_
          refine lv_iload hx hb dX6_plan_37 (lv_at hl 0 rfl) ?_
          refine lv_bipush (v := 6) hx hb dX6_plan_39 (by decide) ?_
          refine lv_icmp_lt (tgt := 52) hx hb dX6_plan_41 (by decide) (fun c_5 => ?_) (fun c_5 => ?_)
          · have hq6 := in6n c_5
            refine lv_aload_n hx hb dX6_plan_52 rfl (lv_at hl 2 rfl) ?_
            refine x_get (K := 16) (i := i) (v := .int (σ 15 i)) hx hb hts hinX0 hown hK hX hi 2 rfl rfl (by decide) rfl lk188 rfl dX6_plan_53 ?_
            refine lv_aload hx hb dX6_plan_56 (lv_at hl 1 rfl) ?_
            refine x_get (K := 18) (i := w) (v := .int (σ 22 w)) hx hb hts hinX5 hown hK hX hw 1 rfl rfl (by decide) rfl lk191 rfl dX6_plan_58 ?_
            refine lv_icmp_le (tgt := 72) hx hb dX6_plan_61 (by decide) (fun c_6 => ?_) (fun c_6 => ?_)
            · replace c_6 := Int32.not_lt.mpr c_6
              refine lv_aload_n hx hb dX6_plan_72 rfl (lv_at hl 2 rfl) ?_
              refine lv_aload hx hb dX6_plan_73 (lv_at hl 1 rfl) ?_
              have hS := XS.start (lo := lo) (XR.t0 hX 0)
              have hX := hS.1
              refine sp_put (ref := RX0) (C := RX0) (T := TX0) (N := 9) (ci := 2) (ty := (.object "DyehouseLedger$Vat")) (v := .ref (ad 18 w)) hx hb hts hinX0 tyX0 tyX0_ok nmX0 hown hK (show va_at g.1 vwCl (ad 16 i, .inr (2, _)) _ from hX 16 i hi) rfl 8 (by decide) lk164 (fun _ h => h) rfl (by decide +kernel) rfl rfl (show 8 < 9 from by decide) dX6_plan_75 (fun H1 j1 h1 h2 h3 => ?_)
              have hS := hS.upd hA (K := 16) (i := i) hi (σ' := (up (up σ 0 0 0) 20 i (nI w))) (u' := u) (τ' := τ) h1 h2 h3 (loc1 (j := j1)) (xcnt_up _ (by decide) _ _) (by simp [xcont, up, upd, va_rf, eti, etw, hw1]) (fun K9 i9 hi9 hne => cont_lot g.2 ad (fun k9 j9 hn => up_off _ _ (by omega)) hne)
              have hX := hS.1
              refine lv_iload hx hb dX6_plan_78 (lv_at hl 0 rfl) ?_
              refine lv_iconst (v := 1) hx hb dX6_plan_80 (by decide) ?_
              refine lv_iadd hx hb dX6_plan_81 ?_
              have hS9 := hS.cg (show (up (up σ 0 0 0) 20 i (nI w)) = (F_plan σ (nI i) (nI w)) from (by unfold F_plan; rw [if_pos (show (t_plan σ (nI i) (nI w)) = 0 from (by simp only [tD, tL, tV, tO, tW, tLV, tN, t_setDye, t_supply, t_plan, t_unplan, t_dye, okW, eti, etw]; (repeat' split) <;> first | rfl | contradiction | (exfalso; simp_all [-Int32.not_lt, -Int32.not_le]; done)))]; simp only [eti])) (show _ = u from rfl) rfl
              refine vx_ret ?_
              refine W.widen (k := 3) (n := 18) (Nat.le_of_ble_eq_true rfl) (Nat.le_of_ble_eq_true rfl) ?_
              exact W.iret (v := ((f_inPlan σ (nI w)) + 1)) hx hb hr (fun t ht9 hW => ⟨(show (exOf 1 3 4 (t_plan σ (nI i) (nI w))) = 0 from by rw [show (t_plan σ (nI i) (nI w)) = 0 from (by simp only [tD, tL, tV, tO, tW, tLV, tN, t_setDye, t_supply, t_plan, t_unplan, t_dye, okW, eti, etw]; (repeat' split) <;> first | rfl | contradiction | (exfalso; simp_all [-Int32.not_lt, -Int32.not_le]; done))]; rfl), congrArg (fun z => Outcome.returned (some (Value.int z))) rfl, by rw [ht9]; exact hS9.1, by rw [ht9]; exact Nat.le_of_eq hS.2.1.symm, fun q _ hq => by first | (rw [ht9]; done) | rw [ht9]; exact hS.2.2.1 q (fun z => hq (by first | exact z | (obtain ⟨K9, i9, a9, b9⟩ := z; refine ⟨K9, i9, ?_, b9⟩; split at a9 <;> exact a9)))⟩) hS.2.2.2 dX6_plan_82
            · replace c_6 := Int32.not_le.mp c_6
              exact x_throw (k9 := 4) (ic := 129) hx hb hst hown hE ht hlocks (hl.1.trans hml.symm) (fun _ _ _ => trivial) (by decide) tk4 ti4 tw4 bad4 good4 (by decide) (show (exOf 1 3 4 (t_plan σ (nI i) (nI w))) = 4 from by rw [show (t_plan σ (nI i) (nI w)) = 3 from (by simp only [tD, tL, tV, tO, tW, tLV, tN, t_setDye, t_supply, t_plan, t_unplan, t_dye, okW, eti, etw]; (repeat' split) <;> first | rfl | contradiction | (exfalso; simp_all [-Int32.not_lt, -Int32.not_le]; done))]; rfl) dX6_plan_64 dX6_plan_67 dX6_plan_68 dX6_plan_71 (Nat.le_of_ble_eq_true rfl) (Nat.le_of_ble_eq_true rfl) (Nat.le_of_ble_eq_true rfl) (Nat.le_of_ble_eq_true rfl) (Nat.le_of_ble_eq_true rfl) (Nat.le_of_ble_eq_true rfl)
          · have hq6 := in6 hI (by omega) c_5
            exact x_throw (k9 := 3) (ic := 58) hx hb hst hown hE ht hlocks (hl.1.trans hml.symm) (fun _ _ _ => trivial) (by decide) tk3 ti3 tw3 bad3 good3 (by decide) (show (exOf 1 3 4 (t_plan σ (nI i) (nI w))) = 3 from by rw [show (t_plan σ (nI i) (nI w)) = 2 from (by simp only [tD, tL, tV, tO, tW, tLV, tN, t_setDye, t_supply, t_plan, t_unplan, t_dye, okW, eti, etw]; (repeat' split) <;> first | rfl | contradiction | (exfalso; simp_all [-Int32.not_lt, -Int32.not_le]; done))]; rfl) dX6_plan_44 dX6_plan_47 dX6_plan_48 dX6_plan_51 (Nat.le_of_ble_eq_true rfl) (Nat.le_of_ble_eq_true rfl) (Nat.le_of_ble_eq_true rfl) (Nat.le_of_ble_eq_true rfl) (Nat.le_of_ble_eq_true rfl) (Nat.le_of_ble_eq_true rfl)
        · refine x_get (K := 16) (i := i) (v := .ref (ad 18 (ti (σ 20 i)))) hx hb hts hinX0 hown hK hX hi 8 rfl rfl (by decide) rfl lk164 (congrArg some (opt_in z_4)) dX6_plan_31 ?_
          refine lv_ifnonnull (tgt := 44) hx hb dX6_plan_34 (by decide) ?_
          exact x_throw (k9 := 3) (ic := 58) hx hb hst hown hE ht hlocks (hl.1.trans hml.symm) (fun _ _ _ => trivial) (by decide) tk3 ti3 tw3 bad3 good3 (by decide) (show (exOf 1 3 4 (t_plan σ (nI i) (nI w))) = 3 from by rw [show (t_plan σ (nI i) (nI w)) = 2 from (by simp only [tD, tL, tV, tO, tW, tLV, tN, t_setDye, t_supply, t_plan, t_unplan, t_dye, okW, eti, etw]; (repeat' split) <;> first | rfl | contradiction | (exfalso; simp_all [-Int32.not_lt, -Int32.not_le]; done))]; rfl) dX6_plan_44 dX6_plan_47 dX6_plan_48 dX6_plan_51 (Nat.le_of_ble_eq_true rfl) (Nat.le_of_ble_eq_true rfl) (Nat.le_of_ble_eq_true rfl) (Nat.le_of_ble_eq_true rfl) (Nat.le_of_ble_eq_true rfl) (Nat.le_of_ble_eq_true rfl)
    · refine lv_aload_n hx hb dX6_plan_0 rfl (lv_at hl 0 rfl) ?_
      refine lv_iload_n hx hb dX6_plan_1 rfl (lv_at hl 1 rfl) ?_
      refine xc_v (n := 1) (As := [.int (nI i)]) (rest := []) (v := [.ref (ad 16 i)]) ⟨hx, hb, hml, hown, hts⟩ hE hX ht hlocks (fun q => absurd (show eL σ (nI i) = 0 from if_pos kl9) q) (qX6_lotNumbered la hst g lo ad σ u τ hI (nI i)) gX6_plan_X6_lotNumbered rfl rfl rfl (by decide +kernel) ⟨Nat.le_of_ble_eq_true rfl, Nat.le_of_ble_eq_true rfl⟩ rfl hl.1 rfl (Nat.le_of_ble_eq_true rfl) dX6_plan_2 ⟨Nat.le_of_ble_eq_true rfl, Nat.le_of_ble_eq_true rfl⟩ ⟨Nat.le_of_ble_eq_true rfl, Nat.le_of_ble_eq_true rfl⟩ (fun _ => congrArg (fun z => [Value.ref (ad 16 z)]) (ti_nI (by omega))) (fun h_8 => ?_)
      refine lv_astore_n (lv' := [(3, .ref (ad 16 i)), (0, .ref (ad 0 0)), (1, .int (nI i)), (2, .int v)]) hx hb dX6_plan_5 rfl hl (by decide) rfl (fun ls hl => ?_)
      refine lv_aload_n hx hb dX6_plan_6 rfl (lv_at hl 1 rfl) ?_
      refine lv_iload_n hx hb dX6_plan_7 rfl (lv_at hl 3 rfl) ?_
      refine xc_v (n := 1) (As := [.int v]) (rest := []) (v := [.ref (ad 18 (ti v))]) ⟨hx, hb, hml, hown, hts⟩ hE hX ht hlocks (fun _ => ((show (exOf 1 3 4 (t_plan σ (nI i) v)) = 1 from by rw [show (t_plan σ (nI i) v) = 1 from (by simp only [tD, tL, tV, tO, tW, tLV, tN, t_setDye, t_supply, t_plan, t_unplan, t_dye, okW, eti]; (repeat' split) <;> first | rfl | contradiction | (exfalso; simp_all [-Int32.not_lt, -Int32.not_le]; done))]; rfl)).trans (show eV σ v = 1 from if_neg kv9).symm) (qX6_vatNumbered la hst g lo ad σ u τ hI v) gX6_plan_X6_vatNumbered rfl rfl rfl (by decide +kernel) ⟨Nat.le_of_ble_eq_true rfl, Nat.le_of_ble_eq_true rfl⟩ rfl hl.1 rfl (Nat.le_of_ble_eq_true rfl) dX6_plan_8 ⟨Nat.le_of_ble_eq_true rfl, Nat.le_of_ble_eq_true rfl⟩ ⟨Nat.le_of_ble_eq_true rfl, Nat.le_of_ble_eq_true rfl⟩ (fun _ => rfl) (fun h_9 => ?_)
      exact absurd h_9 (by rw [show eV σ v = 1 from if_neg kv9]; decide)
  · refine lv_aload_n hx hb dX6_plan_0 rfl (lv_at hl 0 rfl) ?_
    refine lv_iload_n hx hb dX6_plan_1 rfl (lv_at hl 1 rfl) ?_
    refine xc_v (n := 1) (As := [.int l]) (rest := []) (v := [.ref (ad 16 (ti l))]) ⟨hx, hb, hml, hown, hts⟩ hE hX ht hlocks (fun _ => ((show (exOf 1 3 4 (t_plan σ l v)) = 1 from by rw [show (t_plan σ l v) = 1 from (by simp only [tD, tL, tV, tO, tW, tLV, tN, t_setDye, t_supply, t_plan, t_unplan, t_dye, okW]; (repeat' split) <;> first | rfl | contradiction | (exfalso; simp_all [-Int32.not_lt, -Int32.not_le]; done))]; rfl)).trans (show eL σ l = 1 from if_neg kl9).symm) (qX6_lotNumbered la hst g lo ad σ u τ hI l) gX6_plan_X6_lotNumbered rfl rfl rfl (by decide +kernel) ⟨Nat.le_of_ble_eq_true rfl, Nat.le_of_ble_eq_true rfl⟩ rfl hl.1 rfl (Nat.le_of_ble_eq_true rfl) dX6_plan_2 ⟨Nat.le_of_ble_eq_true rfl, Nat.le_of_ble_eq_true rfl⟩ ⟨Nat.le_of_ble_eq_true rfl, Nat.le_of_ble_eq_true rfl⟩ (fun _ => rfl) (fun h_11 => ?_)
    exact absurd h_11 (by rw [show eL σ l = 1 from if_neg kl9]; decide)
theorem tw_inX6_unplan_3 : ∀ w ∈ (vx_at0 RX6 58 (en 3) exN).filter goodWord, w ∈ wsX6_unplan := by decide +kernel
set_option maxHeartbeats 4000000 in
set_option maxRecDepth 100000 in
theorem qX6_unplan (la : Launch) (hst : la.stackTraces = false) (g : EG) (lo : Nat) (ad : Nat → Nat → Nat) (σ : Sg) (u : Nat → Int64) (τ : Sg) (hI : INV σ) (hA : XA lo ad σ) (l : Int32) : vx_Met la yX6_unplan wsX6_unplan ({ frames := 7, cells := 2, slots := 12, locals := 122 } : Room) (va_Pc [.ref (ad 0 0), .int l] (fun U => XR g ad σ u τ U.heap ∧ EV g lo U)) (QXM (exOf 1 3 0 (t_unplan σ l)) (.returned (some (.int (σ 20 (ti l))))) (fun H9 => XR g ad (F_unplan σ l) u τ H9) (xown ad σ)) (XX (exOf 1 3 0 (t_unplan σ l))) 2 12 (fun q => lo ≤ q) := by
  refine vx_ofW (cc := cX6_unplan) (maxL := 4) (ret := (some .int)) (by decide) rfl ?_
  intro p e s m args below meth c s₁ B hml ht hv
  obtain ⟨rfl, hX, hE⟩ := hv
  have hK := hE.1
  have hx := B.exec
  have hb := B.bytes
  have hr := B.returns
  have hts := atoms_spec (ws := wsX6_unplan) B.pre
  have hown : s.vm.findClass RX6 = some m.cls := findClass_of_methodNamed B.named
  have hlocks := B.notSynchronized
  have hinX0 : ∀ w ∈ wsX00, w ∈ wsX6_unplan := by decide +kernel
  have hinX5 : ∀ w ∈ wsX50, w ∈ wsX6_unplan := by decide +kernel
  have lk164 := hts (.fieldLink RX6 164 "DyehouseLedger$Lot" "plannedFor" "LDyehouseLedger$Vat;") (by decide +kernel)
  have lk194 := hts (.fieldLink RX6 194 "DyehouseLedger$Vat" "number" "I") (by decide +kernel)
  have ti3 := hts (.initialized "java/lang/IllegalStateException") (by decide +kernel)
  have tk3 := hts (.classLink RX6 56 "java/lang/IllegalStateException") (by decide +kernel)
  have tw3 : ∀ w ∈ (vx_at0 RX6 58 (en 3) exN).filter goodWord, w.before _ s = true := fun w h => hts w (tw_inX6_unplan_3 w h)
  have hl := lv_entry ([.ref (ad 0 0), .int l]) (n := 4) (Nat.le_of_ble_eq_true rfl)
  rw [lg_entry_eq]
  generalize (lg_sl ([.ref (ad 0 0), .int l]) ++ List.replicate (4 - (lg_sl ([.ref (ad 0 0), .int l])).length) Slot.unset).toArray = ls at hl ⊢
  have hl : lv_has ls 4 [(0, .ref (ad 0 0)), (1, .int l)] := hl
  have hbL := hI.l.1
  have hbO := hI.o.1
  have hbV := hI.v.1
  by_cases kl9 : okL σ l
  · obtain ⟨i, hi, rfl⟩ := vp_in_of ((okL_in hI l).mp kl9) (Nat.lt_of_le_of_lt hI.l.1 (by decide))
    have hbi : nL σ ≤ _ := hI.l.1
    have eti : ti (nI i) = i := ti_nI (by omega)
    refine lv_aload_n hx hb dX6_unplan_0 rfl (lv_at hl 0 rfl) ?_
    refine lv_iload_n hx hb dX6_unplan_1 rfl (lv_at hl 1 rfl) ?_
    refine xc_v (n := 1) (As := [.int (nI i)]) (rest := []) (v := [.ref (ad 16 i)]) ⟨hx, hb, hml, hown, hts⟩ hE hX ht hlocks (fun q => absurd (show eL σ (nI i) = 0 from if_pos kl9) q) (qX6_lotNumbered la hst g lo ad σ u τ hI (nI i)) gX6_unplan_X6_lotNumbered rfl rfl rfl (by decide +kernel) ⟨Nat.le_of_ble_eq_true rfl, Nat.le_of_ble_eq_true rfl⟩ rfl hl.1 rfl (Nat.le_of_ble_eq_true rfl) dX6_unplan_2 ⟨Nat.le_of_ble_eq_true rfl, Nat.le_of_ble_eq_true rfl⟩ ⟨Nat.le_of_ble_eq_true rfl, Nat.le_of_ble_eq_true rfl⟩ (fun _ => congrArg (fun z => [Value.ref (ad 16 z)]) (ti_nI (by omega))) (fun h_1 => ?_)
    refine lv_astore_n (lv' := [(2, .ref (ad 16 i)), (0, .ref (ad 0 0)), (1, .int (nI i))]) hx hb dX6_unplan_5 rfl hl (by decide) rfl (fun ls hl => ?_)
    refine lv_aload_n hx hb dX6_unplan_6 rfl (lv_at hl 0 rfl) ?_
    by_cases z_2 : σ 20 i = -1
    · refine x_get (K := 16) (i := i) (v := .null) hx hb hts hinX0 hown hK hX hi 8 rfl rfl (by decide) rfl lk164 (congrArg some (opt_no z_2)) dX6_unplan_7 ?_
      refine lv_astore_nN (lv' := [(3, .null), (2, .ref (ad 16 i)), (0, .ref (ad 0 0)), (1, .int (nI i))]) hx hb dX6_unplan_10 rfl hl (by decide) rfl (fun ls hl => ?_)
      refine lv_aload_nN hx hb dX6_unplan_11 rfl (lv_at hl 0 rfl) ?_
      refine lv_ifnonnullN hx hb dX6_unplan_12 ?_
      exact x_throw (k9 := 3) (ic := 58) hx hb hst hown hE ht hlocks (hl.1.trans hml.symm) (fun _ _ _ => trivial) (by decide) tk3 ti3 tw3 bad3 good3 (by decide) (show (exOf 1 3 0 (t_unplan σ (nI i))) = 3 from by rw [show (t_unplan σ (nI i)) = 2 from (by simp only [tD, tL, tV, tO, tW, tLV, tN, t_setDye, t_supply, t_plan, t_unplan, t_dye, okW, eti]; (repeat' split) <;> first | rfl | contradiction | (exfalso; simp_all [-Int32.not_lt, -Int32.not_le]; done))]; rfl) dX6_unplan_15 dX6_unplan_18 dX6_unplan_19 dX6_unplan_22 (Nat.le_of_ble_eq_true rfl) (Nat.le_of_ble_eq_true rfl) (Nat.le_of_ble_eq_true rfl) (Nat.le_of_ble_eq_true rfl) (Nat.le_of_ble_eq_true rfl) (Nat.le_of_ble_eq_true rfl)
    · refine x_get (K := 16) (i := i) (v := .ref (ad 18 (ti (σ 20 i)))) hx hb hts hinX0 hown hK hX hi 8 rfl rfl (by decide) rfl lk164 (congrArg some (opt_in z_2)) dX6_unplan_7 ?_
      refine lv_astore_n (lv' := [(3, .ref (ad 18 (ti (σ 20 i)))), (2, .ref (ad 16 i)), (0, .ref (ad 0 0)), (1, .int (nI i))]) hx hb dX6_unplan_10 rfl hl (by decide) rfl (fun ls hl => ?_)
      refine lv_aload_n hx hb dX6_unplan_11 rfl (lv_at hl 0 rfl) ?_
      refine lv_ifnonnull (tgt := 23) hx hb dX6_unplan_12 (by decide) ?_
      refine lv_aload_n hx hb dX6_unplan_23 rfl (lv_at hl 1 rfl) ?_
      refine lv_null hx hb dX6_unplan_24 ?_
      have hS := XS.start (lo := lo) (XR.t0 hX 0)
      have hX := hS.1
      refine sp_put (ref := RX0) (C := RX0) (T := TX0) (N := 9) (ci := 2) (ty := (.object "DyehouseLedger$Vat")) (v := .null) hx hb hts hinX0 tyX0 tyX0_ok nmX0 hown hK (show va_at g.1 vwCl (ad 16 i, .inr (2, _)) _ from hX 16 i hi) rfl 8 (by decide) lk164 (fun _ h => h) rfl (by decide +kernel) rfl rfl (show 8 < 9 from by decide) dX6_unplan_25 (fun H1 j1 h1 h2 h3 => ?_)
      have hS := hS.upd hA (K := 16) (i := i) hi (σ' := (up (up σ 0 0 0) 20 i (-1))) (u' := u) (τ' := τ) h1 h2 h3 (loc1 (j := j1)) (xcnt_up _ (by decide) _ _) (by simp [xcont, up, upd, va_rf, eti]) (fun K9 i9 hi9 hne => cont_lot g.2 ad (fun k9 j9 hn => up_off _ _ (by omega)) hne)
      have hX := hS.1
      refine lv_aload_n hx hb dX6_unplan_28 rfl (lv_at hl 0 rfl) ?_
      refine x_get (K := 18) (i := (ti (σ 20 i))) (v := .int (nI (ti (σ 20 i)))) hx hb hts hinX5 hown hK hX (vin_lt (hI.2.2.2.2.2.2.1 _ hi z_2).1) 0 rfl rfl (by decide) rfl lk194 (by first | rfl | (simp [up, upd]; done)) dX6_unplan_29 ?_
      have hS9 := hS.cg (show (up (up σ 0 0 0) 20 i (-1)) = (F_unplan σ (nI i)) from (by unfold F_unplan; rw [if_pos (show (t_unplan σ (nI i)) = 0 from (by simp only [tD, tL, tV, tO, tW, tLV, tN, t_setDye, t_supply, t_plan, t_unplan, t_dye, okW, eti]; (repeat' split) <;> first | rfl | contradiction | (exfalso; simp_all [-Int32.not_lt, -Int32.not_le]; done)))]; simp only [eti])) (show _ = u from rfl) rfl
      refine vx_ret ?_
      refine W.widen (k := 2) (n := 12) (Nat.le_of_ble_eq_true rfl) (Nat.le_of_ble_eq_true rfl) ?_
      exact W.iret (v := (nI (ti (σ 20 i)))) hx hb hr (fun t ht9 hW => ⟨(show (exOf 1 3 0 (t_unplan σ (nI i))) = 0 from by rw [show (t_unplan σ (nI i)) = 0 from (by simp only [tD, tL, tV, tO, tW, tLV, tN, t_setDye, t_supply, t_plan, t_unplan, t_dye, okW, eti]; (repeat' split) <;> first | rfl | contradiction | (exfalso; simp_all [-Int32.not_lt, -Int32.not_le]; done))]; rfl), congrArg (fun z => Outcome.returned (some (Value.int z))) (by rw [eti]; exact nI_ti (vin_mono (hI.2.2.2.2.2.2.1 _ hi (by assumption)).1 hI.v.1) (by decide)), by rw [ht9]; exact hS9.1, by rw [ht9]; exact Nat.le_of_eq hS.2.1.symm, fun q _ hq => by first | (rw [ht9]; done) | rw [ht9]; exact hS.2.2.1 q (fun z => hq (by first | exact z | (obtain ⟨K9, i9, a9, b9⟩ := z; refine ⟨K9, i9, ?_, b9⟩; split at a9 <;> exact a9)))⟩) hS.2.2.2 dX6_unplan_32
  · refine lv_aload_n hx hb dX6_unplan_0 rfl (lv_at hl 0 rfl) ?_
    refine lv_iload_n hx hb dX6_unplan_1 rfl (lv_at hl 1 rfl) ?_
    refine xc_v (n := 1) (As := [.int l]) (rest := []) (v := [.ref (ad 16 (ti l))]) ⟨hx, hb, hml, hown, hts⟩ hE hX ht hlocks (fun _ => ((show (exOf 1 3 0 (t_unplan σ l)) = 1 from by rw [show (t_unplan σ l) = 1 from (by simp only [tD, tL, tV, tO, tW, tLV, tN, t_setDye, t_supply, t_plan, t_unplan, t_dye, okW]; (repeat' split) <;> first | rfl | contradiction | (exfalso; simp_all [-Int32.not_lt, -Int32.not_le]; done))]; rfl)).trans (show eL σ l = 1 from if_neg kl9).symm) (qX6_lotNumbered la hst g lo ad σ u τ hI l) gX6_unplan_X6_lotNumbered rfl rfl rfl (by decide +kernel) ⟨Nat.le_of_ble_eq_true rfl, Nat.le_of_ble_eq_true rfl⟩ rfl hl.1 rfl (Nat.le_of_ble_eq_true rfl) dX6_unplan_2 ⟨Nat.le_of_ble_eq_true rfl, Nat.le_of_ble_eq_true rfl⟩ ⟨Nat.le_of_ble_eq_true rfl, Nat.le_of_ble_eq_true rfl⟩ (fun _ => rfl) (fun h_4 => ?_)
    exact absurd h_4 (by rw [show eL σ l = 1 from if_neg kl9]; decide)
