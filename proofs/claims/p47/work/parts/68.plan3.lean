set_option maxHeartbeats 4000000 in
set_option maxRecDepth 100000 in
theorem qX2_begin (la : Launch) (g : EG) (lo : Nat) (ad : Nat → Nat → Nat) (σ : Sg) (u : Nat → Int64) (τ : Sg) (hA : XA lo ad σ) (v : Nat) (hv : v < nV σ) : Met la yX2_begin wsX2_begin ({ frames := 0, cells := 0, slots := 0, locals := 0 } : Room) (va_Pc [.ref (ad 7 0), .ref (ad 18 v)] (fun U => XR g ad σ u τ U.heap ∧ KK g U)) (QM (.returned none) (fun H9 => XR g ad σ u (tBeg σ τ v) H9) (xown ad σ)) 0 0 (fun q => lo ≤ q) := by
  refine Met.ofW (cc := cX2_begin) (maxL := 2) (ret := none) (by decide) rfl ?_
  intro p e s m args below meth c s₁ B hml hv
  obtain ⟨rfl, hX, hK⟩ := hv
  have hx := B.exec
  have hb := B.bytes
  have hr := B.returns
  have hts := atoms_spec (ws := wsX2_begin) B.pre
  have hown : s.vm.findClass RX2 = some m.cls := findClass_of_methodNamed B.named
  have hlocks := B.notSynchronized
  have hinX2 : ∀ w ∈ wsX20, w ∈ wsX2_begin := by decide +kernel
  have hinX5 : ∀ w ∈ wsX50, w ∈ wsX2_begin := by decide +kernel
  have lk24 := hts (.fieldLink RX2 24 "DyehouseLedger$Plan" "size" "I") (by decide +kernel)
  have lk28 := hts (.fieldLink RX2 28 "DyehouseLedger$Vat" "light" "I") (by decide +kernel)
  have lk33 := hts (.fieldLink RX2 33 "DyehouseLedger$Plan" "lightAtFirst" "I") (by decide +kernel)
  have lk36 := hts (.fieldLink RX2 36 "DyehouseLedger$Vat" "onlyCustomer" "I") (by decide +kernel)
  have lk39 := hts (.fieldLink RX2 39 "DyehouseLedger$Plan" "onlyCustomerAtFirst" "I") (by decide +kernel)
  have hl := lv_entry ([.ref (ad 7 0), .ref (ad 18 v)]) (n := 2) (Nat.le_of_ble_eq_true rfl)
  rw [lg_entry_eq]
  generalize (lg_sl ([.ref (ad 7 0), .ref (ad 18 v)]) ++ List.replicate (2 - (lg_sl ([.ref (ad 7 0), .ref (ad 18 v)])).length) Slot.unset).toArray = ls at hl ⊢
  have hl : lv_has ls 2 [(0, .ref (ad 7 0)), (1, .ref (ad 18 v))] := hl
  refine lv_aload_n hx hb dX2_begin_0 rfl (lv_at hl 0 rfl) ?_
  refine lv_iconst (v := 0) hx hb dX2_begin_1 (by decide) ?_
  have hS := XS.start (lo := lo) hX
  have hX := hS.1
  refine sp_put (ref := RX2) (C := RX2) (T := TX2) (N := 7) (ci := 4) (ty := .int) (v := .int 0) hx hb hts hinX2 tyX2 tyX2_ok nmX2 hown hK (show va_at g.1 vwCl (ad 7 0, .inr (4, _)) _ from hX 7 0 Nat.zero_lt_one) rfl 4 (by decide) lk24 (fun _ h => h) rfl (by decide +kernel) rfl rfl (show 4 < 7 from by decide) dX2_begin_2 (fun H1 j1 h1 h2 h3 => ?_)
  have hS := hS.upd hA (K := 7) (i := 0) Nat.zero_lt_one (σ' := σ) (u' := u) (τ' := (up τ 4 0 0)) h1 h2 h3 (loc1 (j := j1)) rfl rfl (fun K9 i9 hi9 hne => cont_t7 g.2 ad (fun k9 hk9 => up_ne _ _ _ (by omega)) hne hi9)
  have hX := hS.1
  refine lv_aload_n hx hb dX2_begin_5 rfl (lv_at hl 0 rfl) ?_
  refine lv_aload_n hx hb dX2_begin_6 rfl (lv_at hl 1 rfl) ?_
  refine x_get (K := 18) (i := v) (v := .int (σ 23 v)) hx hb hts hinX5 hown hK hX hv 2 rfl rfl (by decide) rfl lk28 rfl dX2_begin_7 ?_
  refine sp_put (ref := RX2) (C := RX2) (T := TX2) (N := 7) (ci := 4) (ty := .int) (v := .int (σ 23 v)) hx hb hts hinX2 tyX2 tyX2_ok nmX2 hown hK (show va_at g.1 vwCl (ad 7 0, .inr (4, _)) _ from hX 7 0 Nat.zero_lt_one) rfl 5 (by decide) lk33 (fun _ h => h) rfl (by decide +kernel) rfl rfl (show 5 < 7 from by decide) dX2_begin_10 (fun H1 j1 h1 h2 h3 => ?_)
  have hS := hS.upd hA (K := 7) (i := 0) Nat.zero_lt_one (σ' := σ) (u' := u) (τ' := (up (up τ 4 0 0) 5 0 (σ 23 v))) h1 h2 h3 (loc1 (j := j1)) rfl rfl (fun K9 i9 hi9 hne => cont_t7 g.2 ad (fun k9 hk9 => up_ne _ _ _ (by omega)) hne hi9)
  have hX := hS.1
  refine lv_aload_n hx hb dX2_begin_13 rfl (lv_at hl 0 rfl) ?_
  refine lv_aload_n hx hb dX2_begin_14 rfl (lv_at hl 1 rfl) ?_
  refine x_get (K := 18) (i := v) (v := .int (σ 24 v)) hx hb hts hinX5 hown hK hX hv 3 rfl rfl (by decide) rfl lk36 rfl dX2_begin_15 ?_
  refine sp_put (ref := RX2) (C := RX2) (T := TX2) (N := 7) (ci := 4) (ty := .int) (v := .int (σ 24 v)) hx hb hts hinX2 tyX2 tyX2_ok nmX2 hown hK (show va_at g.1 vwCl (ad 7 0, .inr (4, _)) _ from hX 7 0 Nat.zero_lt_one) rfl 6 (by decide) lk39 (fun _ h => h) rfl (by decide +kernel) rfl rfl (show 6 < 7 from by decide) dX2_begin_18 (fun H1 j1 h1 h2 h3 => ?_)
  have hS := hS.upd hA (K := 7) (i := 0) Nat.zero_lt_one (σ' := σ) (u' := u) (τ' := (up (up (up τ 4 0 0) 5 0 (σ 23 v)) 6 0 (σ 24 v))) h1 h2 h3 (loc1 (j := j1)) rfl rfl (fun K9 i9 hi9 hne => cont_t7 g.2 ad (fun k9 hk9 => up_ne _ _ _ (by omega)) hne hi9)
  have hX := hS.1
  have hS9 := hS.cg rfl rfl (show (up (up (up τ 4 0 0) 5 0 (σ 23 v)) 6 0 (σ 24 v)) = tBeg σ τ v from rfl)
  exact W.vret hx hb hr (fun t ht9 hW => ⟨rfl, by rw [ht9]; exact hS9.1, by rw [ht9]; exact hS.2.1, fun q hq => by rw [ht9]; exact hS.2.2.1 q hq⟩) hS.2.2.2 dX2_begin_21
set_option maxHeartbeats 4000000 in
set_option maxRecDepth 100000 in
theorem qX2_add (la : Launch) (g : EG) (lo : Nat) (ad : Nat → Nat → Nat) (σ : Sg) (u : Nat → Int64) (τ : Sg) (hA : XA lo ad σ) (hI : INV σ) (i : Nat) (hi : i < nL σ) (n : Nat) (hn6 : n < 6) (h4 : τ 4 0 = nI n) : Met la yX2_add wsX2_add ({ frames := 1, cells := 0, slots := 0, locals := 20 } : Room) (va_Pc [.ref (ad 7 0), .ref (ad 16 i)] (fun U => XR g ad σ u τ U.heap ∧ KK g U)) (QM (.returned none) (fun H9 => XR g ad σ u (tAdd σ τ i n) H9) (xown ad σ)) 0 0 (fun q => lo ≤ q) := by
  refine Met.ofW (cc := cX2_add) (maxL := 2) (ret := none) (by decide) rfl ?_
  intro p e s m args below meth c s₁ B hml hv
  obtain ⟨rfl, hX, hK⟩ := hv
  have hx := B.exec
  have hb := B.bytes
  have hr := B.returns
  have hts := atoms_spec (ws := wsX2_add) B.pre
  have hown : s.vm.findClass RX2 = some m.cls := findClass_of_methodNamed B.named
  have hlocks := B.notSynchronized
  have hinX0 : ∀ w ∈ wsX00, w ∈ wsX2_add := by decide +kernel
  have hinX1 : ∀ w ∈ wsX10, w ∈ wsX2_add := by decide +kernel
  have hinX2 : ∀ w ∈ wsX20, w ∈ wsX2_add := by decide +kernel
  have hinX3 : ∀ w ∈ wsX30, w ∈ wsX2_add := by decide +kernel
  have hinX4 : ∀ w ∈ wsX40, w ∈ wsX2_add := by decide +kernel
  have lk15 := hts (.fieldLink RX2 15 "DyehouseLedger$Plan" "lights" "[I") (by decide +kernel)
  have lk18 := hts (.fieldLink RX2 18 "DyehouseLedger$Plan" "customers" "[I") (by decide +kernel)
  have lk21 := hts (.fieldLink RX2 21 "DyehouseLedger$Plan" "hours" "[I") (by decide +kernel)
  have lk24 := hts (.fieldLink RX2 24 "DyehouseLedger$Plan" "size" "I") (by decide +kernel)
  have lk42 := hts (.fieldLink RX2 42 "DyehouseLedger$Lot" "number" "I") (by decide +kernel)
  have lk47 := hts (.fieldLink RX2 47 "DyehouseLedger$Lot" "order" "LDyehouseLedger$Order;") (by decide +kernel)
  have lk51 := hts (.fieldLink RX2 51 "DyehouseLedger$Order" "recipe" "LDyehouseLedger$Recipe;") (by decide +kernel)
  have lk57 := hts (.fieldLink RX2 57 "DyehouseLedger$Recipe" "shade" "LDyehouseLedger$Shade;") (by decide +kernel)
  have lk63 := hts (.fieldLink RX2 63 "DyehouseLedger$Shade" "light" "I") (by decide +kernel)
  have lk66 := hts (.fieldLink RX2 66 "DyehouseLedger$Order" "customer" "I") (by decide +kernel)
  have lk9 := hts (.fieldLink RX2 9 "DyehouseLedger$Plan" "numbers" "[I") (by decide +kernel)
  have hl := lv_entry ([.ref (ad 7 0), .ref (ad 16 i)]) (n := 2) (Nat.le_of_ble_eq_true rfl)
  rw [lg_entry_eq]
  generalize (lg_sl ([.ref (ad 7 0), .ref (ad 16 i)]) ++ List.replicate (2 - (lg_sl ([.ref (ad 7 0), .ref (ad 16 i)])).length) Slot.unset).toArray = ls at hl ⊢
  have hl : lv_has ls 2 [(0, .ref (ad 7 0)), (1, .ref (ad 16 i))] := hl
  refine lv_aload_n hx hb dX2_add_0 rfl (lv_at hl 0 rfl) ?_
  refine x_get (K := 7) (i := 0) (v := .int (nI n)) hx hb hts hinX2 hown hK hX Nat.zero_lt_one 4 rfl rfl (by decide) rfl lk24 (congrArg (fun z => some (Value.int z)) h4) dX2_add_1 ?_
  refine lv_if_lt (tgt := 90) hx hb dX2_add_4 (by decide) (fun c_1 => ?_) (fun c_1 => ?_)
  · exact absurd c_1 (nI_pos (by omega))
  · refine lv_aload_n hx hb dX2_add_7 rfl (lv_at hl 0 rfl) ?_
    refine x_get (K := 7) (i := 0) (v := .int (nI n)) hx hb hts hinX2 hown hK hX Nat.zero_lt_one 4 rfl rfl (by decide) rfl lk24 (congrArg (fun z => some (Value.int z)) h4) dX2_add_8 ?_
    refine lv_bipush (v := 6) hx hb dX2_add_11 (by decide) ?_
    refine lv_icmp_ge (tgt := 90) hx hb dX2_add_13 (by decide) (fun c_2 => ?_) (fun c_2 => ?_)
    · replace c_2 := Int32.not_lt.mpr c_2
      exact absurd (show nI n < nI 6 from (nI_ltI (by omega) (by decide)).mpr hn6) c_2
    · replace c_2 := Int32.not_le.mp c_2
      refine lv_aload_n hx hb dX2_add_16 rfl (lv_at hl 0 rfl) ?_
      refine x_get (K := 7) (i := 0) (v := .ref (ad 8 0)) hx hb hts hinX2 hown hK hX (show 0 < 1 from Nat.zero_lt_one) 0 rfl rfl (by decide) rfl lk9 rfl dX2_add_17 ?_
      refine lv_aload_n hx hb dX2_add_20 rfl (lv_at hl 0 rfl) ?_
      refine x_get (K := 7) (i := 0) (v := .int (nI n)) hx hb hts hinX2 hown hK hX Nat.zero_lt_one 4 rfl rfl (by decide) rfl lk24 (congrArg (fun z => some (Value.int z)) h4) dX2_add_21 ?_
      refine lv_aload_n hx hb dX2_add_24 rfl (lv_at hl 1 rfl) ?_
      refine x_get (K := 16) (i := i) (v := .int (nI i)) hx hb hts hinX0 hown hK hX hi 0 rfl rfl (by decide) rfl lk42 rfl dX2_add_25 ?_
      have hS := XS.start (lo := lo) hX
      have hX := hS.1
      refine sp_iast hx hb hK 1 (show va_at g.1 vwCl (ad 8 0, .inl (g.2 1, 6, .inl _)) _ from hX 8 0 Nat.zero_lt_one) rfl (vin_nI hn6 (by decide)) dX2_add_28 (fun H1 j1 h1 h2 h3 => ?_)
      rw [show (nI n).toNatClampNeg = n from ti_nI (by omega)] at h1
      have hS := hS.upd hA (K := 8) (i := 0) Nat.zero_lt_one (σ' := σ) (u' := u) (τ' := (up τ 0 n (nI i))) h1 h2 h3 (loc1 (j := j1)) rfl rfl (fun K9 i9 hi9 hne => cont_t8 g.2 ad 0 (by decide) (fun k9 hk9 => up_ne _ _ _ hk9) hne hi9)
      have hX := hS.1
      refine lv_aload_n hx hb dX2_add_29 rfl (lv_at hl 0 rfl) ?_
      refine x_get (K := 7) (i := 0) (v := .ref (ad 9 0)) hx hb hts hinX2 hown hK hX (show 0 < 1 from Nat.zero_lt_one) 1 rfl rfl (by decide) rfl lk15 rfl dX2_add_30 ?_
      refine lv_aload_n hx hb dX2_add_33 rfl (lv_at hl 0 rfl) ?_
      refine x_get (K := 7) (i := 0) (v := .int (nI n)) hx hb hts hinX2 hown hK hX Nat.zero_lt_one 4 rfl rfl (by decide) rfl lk24 (congrArg (fun z => some (Value.int z)) h4) dX2_add_34 ?_
      refine lv_aload_n hx hb dX2_add_37 rfl (lv_at hl 1 rfl) ?_
      refine x_get (K := 16) (i := i) (v := .ref (ad 15 (ti (σ 14 i)))) hx hb hts hinX0 hown hK hX hi 1 rfl rfl (by decide) rfl lk47 rfl dX2_add_38 ?_
      refine x_get (K := 15) (i := (ti (σ 14 i))) (v := .ref (ad 12 (ti (σ 10 (ti (σ 14 i)))))) hx hb hts hinX1 hown hK hX (vin_lt (hI.2.2.1 _ hi)) 1 rfl rfl (by decide) rfl lk51 rfl dX2_add_41 ?_
      refine x_get (K := 12) (i := (ti (σ 10 (ti (σ 14 i))))) (v := .ref (ad 13 (ti (σ 10 (ti (σ 14 i)))))) hx hb hts hinX3 hown hK hX (vin_lt (hI.2.1 _ (vin_lt (hI.2.2.1 _ hi)))) 0 rfl rfl (by decide) rfl lk57 rfl dX2_add_44 ?_
      refine x_get (K := 13) (i := (ti (σ 10 (ti (σ 14 i))))) (v := .int (σ 5 (3 * (ti (σ 10 (ti (σ 14 i))))))) hx hb hts hinX4 hown hK hX (vin_lt (hI.2.1 _ (vin_lt (hI.2.2.1 _ hi)))) 0 rfl rfl (by decide) rfl lk63 rfl dX2_add_47 ?_
      refine sp_iast hx hb hK 1 (show va_at g.1 vwCl (ad 9 0, .inl (g.2 1, 6, .inl _)) _ from hX 9 0 Nat.zero_lt_one) rfl (vin_nI hn6 (by decide)) dX2_add_50 (fun H1 j1 h1 h2 h3 => ?_)
      rw [show (nI n).toNatClampNeg = n from ti_nI (by omega)] at h1
      have hS := hS.upd hA (K := 9) (i := 0) Nat.zero_lt_one (σ' := σ) (u' := u) (τ' := (up (up τ 0 n (nI i)) 1 n (σ 5 (3 * (ti (σ 10 (ti (σ 14 i)))))))) h1 h2 h3 (loc1 (j := j1)) rfl rfl (fun K9 i9 hi9 hne => cont_t8 g.2 ad 1 (by decide) (fun k9 hk9 => up_ne _ _ _ hk9) hne hi9)
      have hX := hS.1
      refine lv_aload_n hx hb dX2_add_51 rfl (lv_at hl 0 rfl) ?_
      refine x_get (K := 7) (i := 0) (v := .ref (ad 10 0)) hx hb hts hinX2 hown hK hX (show 0 < 1 from Nat.zero_lt_one) 2 rfl rfl (by decide) rfl lk18 rfl dX2_add_52 ?_
      refine lv_aload_n hx hb dX2_add_55 rfl (lv_at hl 0 rfl) ?_
      refine x_get (K := 7) (i := 0) (v := .int (nI n)) hx hb hts hinX2 hown hK hX Nat.zero_lt_one 4 rfl rfl (by decide) rfl lk24 (congrArg (fun z => some (Value.int z)) h4) dX2_add_56 ?_
      refine lv_aload_n hx hb dX2_add_59 rfl (lv_at hl 1 rfl) ?_
      refine x_get (K := 16) (i := i) (v := .ref (ad 15 (ti (σ 14 i)))) hx hb hts hinX0 hown hK hX hi 1 rfl rfl (by decide) rfl lk47 rfl dX2_add_60 ?_
      refine x_get (K := 15) (i := (ti (σ 14 i))) (v := .int (σ 9 (ti (σ 14 i)))) hx hb hts hinX1 hown hK hX (vin_lt (hI.2.2.1 _ hi)) 0 rfl rfl (by decide) rfl lk66 rfl dX2_add_63 ?_
      refine sp_iast hx hb hK 1 (show va_at g.1 vwCl (ad 10 0, .inl (g.2 1, 6, .inl _)) _ from hX 10 0 Nat.zero_lt_one) rfl (vin_nI hn6 (by decide)) dX2_add_66 (fun H1 j1 h1 h2 h3 => ?_)
      rw [show (nI n).toNatClampNeg = n from ti_nI (by omega)] at h1
      have hS := hS.upd hA (K := 10) (i := 0) Nat.zero_lt_one (σ' := σ) (u' := u) (τ' := (up (up (up τ 0 n (nI i)) 1 n (σ 5 (3 * (ti (σ 10 (ti (σ 14 i))))))) 2 n (σ 9 (ti (σ 14 i))))) h1 h2 h3 (loc1 (j := j1)) rfl rfl (fun K9 i9 hi9 hne => cont_t8 g.2 ad 2 (by decide) (fun k9 hk9 => up_ne _ _ _ hk9) hne hi9)
      have hX := hS.1
      refine lv_aload_n hx hb dX2_add_67 rfl (lv_at hl 0 rfl) ?_
      refine x_get (K := 7) (i := 0) (v := .ref (ad 11 0)) hx hb hts hinX2 hown hK hX (show 0 < 1 from Nat.zero_lt_one) 3 rfl rfl (by decide) rfl lk21 rfl dX2_add_68 ?_
      refine lv_aload_n hx hb dX2_add_71 rfl (lv_at hl 0 rfl) ?_
      refine x_get (K := 7) (i := 0) (v := .int (nI n)) hx hb hts hinX2 hown hK hX Nat.zero_lt_one 4 rfl rfl (by decide) rfl lk24 (congrArg (fun z => some (Value.int z)) h4) dX2_add_72 ?_
      refine lv_aload_n hx hb dX2_add_75 rfl (lv_at hl 1 rfl) ?_
      refine xc_ro (n := 0) (K := 16) (i := i) (As := []) (rest := [.int (nI n), .ref (ad 11 0)]) (v := [.int (f_hours σ (nI i))]) ⟨hx, hb, hml, hown, hts⟩ hK hX hi rfl rfl (qX0_dyeingHours la g ad σ u (up (up (up τ 0 n (nI i)) 1 n (σ 5 (3 * (ti (σ 10 (ti (σ 14 i))))))) 2 n (σ 9 (ti (σ 14 i)))) hI i hi) gX2_add_X0_dyeingHours rfl rfl rfl (by decide +kernel) ⟨Nat.le_of_ble_eq_true rfl, Nat.le_of_ble_eq_true rfl⟩ rfl hl.1 rfl (Nat.le_of_ble_eq_true rfl) dX2_add_76 ⟨Nat.zero_le _, Nat.zero_le _⟩ rfl ?_
      refine sp_iast hx hb hK 1 (show va_at g.1 vwCl (ad 11 0, .inl (g.2 1, 6, .inl _)) _ from hX 11 0 Nat.zero_lt_one) rfl (vin_nI hn6 (by decide)) dX2_add_79 (fun H1 j1 h1 h2 h3 => ?_)
      rw [show (nI n).toNatClampNeg = n from ti_nI (by omega)] at h1
      have hS := hS.upd hA (K := 11) (i := 0) Nat.zero_lt_one (σ' := σ) (u' := u) (τ' := (up (up (up (up τ 0 n (nI i)) 1 n (σ 5 (3 * (ti (σ 10 (ti (σ 14 i))))))) 2 n (σ 9 (ti (σ 14 i)))) 3 n (f_hours σ (nI i)))) h1 h2 h3 (loc1 (j := j1)) rfl rfl (fun K9 i9 hi9 hne => cont_t8 g.2 ad 3 (by decide) (fun k9 hk9 => up_ne _ _ _ hk9) hne hi9)
      have hX := hS.1
      refine lv_aload_n hx hb dX2_add_80 rfl (lv_at hl 0 rfl) ?_
      refine lv_dup hx hb dX2_add_81 rfl ?_
      refine x_get (K := 7) (i := 0) (v := .int (nI n)) hx hb hts hinX2 hown hK hX Nat.zero_lt_one 4 rfl rfl (by decide) rfl lk24 (congrArg (fun z => some (Value.int z)) h4) dX2_add_82 ?_
      refine lv_iconst (v := 1) hx hb dX2_add_85 (by decide) ?_
      refine lv_iadd hx hb dX2_add_86 ?_
      refine sp_put (ref := RX2) (C := RX2) (T := TX2) (N := 7) (ci := 4) (ty := .int) (v := .int ((nI n) + 1)) hx hb hts hinX2 tyX2 tyX2_ok nmX2 hown hK (show va_at g.1 vwCl (ad 7 0, .inr (4, _)) _ from hX 7 0 Nat.zero_lt_one) rfl 4 (by decide) lk24 (fun _ h => h) rfl (by decide +kernel) rfl rfl (show 4 < 7 from by decide) dX2_add_87 (fun H1 j1 h1 h2 h3 => ?_)
      have hS := hS.upd hA (K := 7) (i := 0) Nat.zero_lt_one (σ' := σ) (u' := u) (τ' := (up (up (up (up (up τ 0 n (nI i)) 1 n (σ 5 (3 * (ti (σ 10 (ti (σ 14 i))))))) 2 n (σ 9 (ti (σ 14 i)))) 3 n (f_hours σ (nI i))) 4 0 ((nI n) + 1))) h1 h2 h3 (loc1 (j := j1)) rfl rfl (fun K9 i9 hi9 hne => cont_t7 g.2 ad (fun k9 hk9 => up_ne _ _ _ (by omega)) hne hi9)
      have hX := hS.1
      have hS9 := hS.cg rfl rfl (show (up (up (up (up (up τ 0 n (nI i)) 1 n (σ 5 (3 * (ti (σ 10 (ti (σ 14 i))))))) 2 n (σ 9 (ti (σ 14 i)))) 3 n (f_hours σ (nI i))) 4 0 ((nI n) + 1)) = tAdd σ τ i n from (by rw [tAdd, lightNI hI hi, custNI hI hi, nI_1]))
      exact W.vret hx hb hr (fun t ht9 hW => ⟨rfl, by rw [ht9]; exact hS9.1, by rw [ht9]; exact hS.2.1, fun q hq => by rw [ht9]; exact hS.2.2.1 q hq⟩) hS.2.2.2 dX2_add_90
set_option maxHeartbeats 4000000 in
set_option maxRecDepth 100000 in
theorem qX6_fillPlan (la : Launch) (g : EG) (lo : Nat) (ad : Nat → Nat → Nat) (σ : Sg) (u : Nat → Int64) (τ : Sg) (hA : XA lo ad σ) (hI : INV σ) (v : Nat) (hv : v < nV σ) : Met la yX6_fillPlan wsX6_fillPlan ({ frames := 2, cells := 0, slots := 0, locals := 41 } : Room) (va_Pc [.ref (ad 0 0), .ref (ad 18 v)] (fun U => XR g ad σ u τ U.heap ∧ KK g U)) (QM (.returned none) (fun H9 => ∃ τ9, XR g ad σ u τ9 H9 ∧ FIL σ (nI v) τ9 24) (xown ad σ)) 0 0 (fun q => lo ≤ q) := by
  refine Met.ofW (cc := cX6_fillPlan) (maxL := 6) (ret := none) (by decide) rfl ?_
  intro p e s m args below meth c s₁ B hml hv
  obtain ⟨rfl, hX, hK⟩ := hv
  have hx := B.exec
  have hb := B.bytes
  have hr := B.returns
  have hts := atoms_spec (ws := wsX6_fillPlan) B.pre
  have hown : s.vm.findClass RX6 = some m.cls := findClass_of_methodNamed B.named
  have hlocks := B.notSynchronized
  have hinX0 : ∀ w ∈ wsX00, w ∈ wsX6_fillPlan := by decide +kernel
  have hinX6 : ∀ w ∈ wsX60, w ∈ wsX6_fillPlan := by decide +kernel
  have lk164 := hts (.fieldLink RX6 164 "DyehouseLedger$Lot" "plannedFor" "LDyehouseLedger$Vat;") (by decide +kernel)
  have lk23 := hts (.fieldLink RX6 23 "DyehouseLedger" "allLots" "[LDyehouseLedger$Lot;") (by decide +kernel)
  have lk44 := hts (.fieldLink RX6 44 "DyehouseLedger" "planAtHand" "LDyehouseLedger$Plan;") (by decide +kernel)
  have hl := lv_entry ([.ref (ad 0 0), .ref (ad 18 v)]) (n := 6) (Nat.le_of_ble_eq_true rfl)
  rw [lg_entry_eq]
  generalize (lg_sl ([.ref (ad 0 0), .ref (ad 18 v)]) ++ List.replicate (6 - (lg_sl ([.ref (ad 0 0), .ref (ad 18 v)])).length) Slot.unset).toArray = ls at hl ⊢
  have hl : lv_has ls 6 [(0, .ref (ad 0 0)), (1, .ref (ad 18 v))] := hl
  have hbL := hI.l.1
  have hbO := hI.o.1
  have hbV := hI.v.1
  have kv : vp_in (nI v) (nV σ) := vin_nI hv (by omega)
  have hv1 : ¬ (-1 : Int32) = nI v := fun q => nI_ne1 (i := v) (by omega) q.symm
  refine lv_aload_n hx hb dX6_fillPlan_0 rfl (lv_at hl 0 rfl) ?_
  refine x_get (K := 0) (i := 0) (v := .ref (ad 7 0)) hx hb hts hinX6 hown hK hX (show 0 < 1 from Nat.zero_lt_one) 6 rfl rfl (by decide) rfl lk44 rfl dX6_fillPlan_1 ?_
  refine lv_aload_n hx hb dX6_fillPlan_4 rfl (lv_at hl 1 rfl) ?_
  have hS := XS.start (lo := lo) hX
  have hX := hS.1
  refine xc_mu (n := 1) (K := 7) (i := 0) (As := [.ref (ad 18 v)]) (rest := []) (v := []) ⟨hx, hb, hml, hown, hts⟩ hK hS Nat.zero_lt_one rfl rfl (qX2_begin la g lo ad σ u τ hA v hv) gX6_fillPlan_X2_begin rfl rfl rfl (by decide +kernel) ⟨Nat.le_of_ble_eq_true rfl, Nat.le_of_ble_eq_true rfl⟩ rfl hl.1 rfl (Nat.le_of_ble_eq_true rfl) dX6_fillPlan_5 ⟨Nat.zero_le _, Nat.zero_le _⟩ rfl rfl (fun H locs hS => ?_)
  replace hS : XS g lo ad σ u (tBeg σ τ v) s.heap H locs := hS
  have hX := hS.1
  refine lv_aload_n hx hb dX6_fillPlan_8 rfl (lv_at hl 0 rfl) ?_
  refine x_get (K := 0) (i := 0) (v := .ref (ad 3 0)) hx hb hts hinX6 hown hK hX (show 0 < 1 from Nat.zero_lt_one) 2 rfl rfl (by decide) rfl lk23 rfl dX6_fillPlan_9 ?_
  refine lv_astore_n (lv' := [(2, .ref (ad 3 0)), (0, .ref (ad 0 0)), (1, .ref (ad 18 v))]) hx hb dX6_fillPlan_12 rfl hl (by decide) rfl (fun ls hl => ?_)
  refine lv_aload_n hx hb dX6_fillPlan_13 rfl (lv_at hl 0 rfl) ?_
  refine x_alen (K := 3) (t0 := 3) (v := 24) hx hb hK hX (show 0 < 1 from Nat.zero_lt_one) rfl rfl rfl dX6_fillPlan_14 ?_
  refine lv_istore_n (lv' := [(3, .int 24), (2, .ref (ad 3 0)), (0, .ref (ad 0 0)), (1, .ref (ad 18 v))]) hx hb dX6_fillPlan_15 rfl hl (by decide) rfl (fun ls hl => ?_)
  refine lv_iconst (v := 0) hx hb dX6_fillPlan_16 (by decide) ?_
  refine lv_istore (lv' := [(4, .int 0), (3, .int 24), (2, .ref (ad 3 0)), (0, .ref (ad 0 0)), (1, .ref (ad 18 v))]) hx hb dX6_fillPlan_17 hl (by decide) rfl (fun ls hl => ?_)
  have lp19 : ∀ (n9 : Nat) (j : Nat) (t9 : Sg), (j ≤ 24) → (FIL σ (nI v) t9 j) → 24 - j < n9 → ∀ (H : Heap) (locs : List Loc), XS g lo ad σ u t9 s.heap H locs → ∀ (ls : Array Slot), lv_has ls 6 [(0, .ref (ad 0 0)), (1, .ref (ad 18 v)), (2, .ref (ad 3 0)), (3, .int 24), (4, .int (nI j))] → W p la e ({ frames := 2, cells := 0, slots := 0, locals := 41 } : Room) s m ([.ref (ad 0 0), .ref (ad 18 v)] : List Value).toArray below meth c H locs 0 0 (MQ below (QM (.returned none) (fun H9 => ∃ τ9, XR g ad σ u τ9 H9 ∧ FIL σ (nI v) τ9 24) (xown ad σ)) ([.ref (ad 0 0), .ref (ad 18 v)] : List Value).toArray s 0 0 (fun q => lo ≤ q)) (F0 m 19 ls []) := by
    intro n9_19
    induction n9_19 with
    | zero => intro j t9 _ _ h9 ; exact absurd h9 (Nat.not_lt_zero _)
    | succ n9_19 ih_19 =>
      intro j t9 hj hF h9 H locs hS ls hl
      have hX := hS.1
      refine lv_iload hx hb dX6_fillPlan_19 (lv_at hl 4 rfl) ?_
      refine lv_iload_n hx hb dX6_fillPlan_21 rfl (lv_at hl 3 rfl) ?_
      refine lv_icmp_ge (tgt := 60) hx hb dX6_fillPlan_22 (by decide) (fun c_1 => ?_) (fun c_1 => ?_)
      · replace c_1 := Int32.not_lt.mpr c_1
        obtain rfl : j = 24 := ge24 hj c_1
        exact W.vret hx hb hr (fun t ht9 hW => ⟨rfl, by rw [ht9]; exact ⟨t9, hS.1, hF⟩, by rw [ht9]; exact hS.2.1, fun q hq => by rw [ht9]; exact hS.2.2.1 q hq⟩) hS.2.2.2 dX6_fillPlan_60
      · replace c_1 := Int32.not_le.mp c_1
        have hj1 : j < 24 := lt24 hj c_1
        refine lv_aload_n hx hb dX6_fillPlan_25 rfl (lv_at hl 2 rfl) ?_
        refine lv_iload hx hb dX6_fillPlan_26 (lv_at hl 4 rfl) ?_
        by_cases z_2 : j < nL σ
        · refine x_aald (K := 3) (t0 := 3) (C := RX0) (n := 24) (f := refA ad 16 (nL σ)) (j := (nI j)) (v := .ref (ad 16 j)) hx hb hK hX (show 0 < 1 from Nat.zero_lt_one) rfl rfl (vin_nI hj1 (by decide)) (by rw [(ti_nI (by omega))]; exact refA_in z_2) dX6_fillPlan_28 ?_
          refine lv_astore (lv' := [(5, .ref (ad 16 j)), (0, .ref (ad 0 0)), (1, .ref (ad 18 v)), (2, .ref (ad 3 0)), (3, .int 24), (4, .int (nI j))]) hx hb dX6_fillPlan_29 hl (by decide) rfl (fun ls hl => ?_)
          refine lv_aload hx hb dX6_fillPlan_31 (lv_at hl 0 rfl) ?_
          refine lv_ifnull hx hb dX6_fillPlan_33 ?_
          refine lv_aload hx hb dX6_fillPlan_36 (lv_at hl 0 rfl) ?_
          by_cases z_3 : σ 20 j = -1
          · refine x_get (K := 16) (i := j) (v := .null) hx hb hts hinX0 hown hK hX z_2 8 rfl rfl (by decide) rfl lk164 (congrArg some (opt_no z_3)) dX6_fillPlan_38 ?_
            refine lv_aload_n hx hb dX6_fillPlan_41 rfl (lv_at hl 2 rfl) ?_
            refine x_acmp_neN (tgt := 54) hx hb dX6_fillPlan_42 (by decide) ?_
            refine lv_iinc (v := ((nI j) + 1)) (lv' := [(4, .int ((nI j) + 1)), (5, .ref (ad 16 j)), (0, .ref (ad 0 0)), (1, .ref (ad 18 v)), (2, .ref (ad 3 0)), (3, .int 24)]) hx hb dX6_fillPlan_54 hl (k := 5) rfl rfl (by decide) rfl (fun ls hl => ?_)
            refine lv_goto (tgt := 19) hx hb dX6_fillPlan_57 (by decide) ?_
            have e_4 : ((nI (j + 1)) : Int32) = ((nI j) + 1) := (nI_1 j).symm
            have hl2 : lv_has ls 6 [(0, .ref (ad 0 0)), (1, .ref (ad 18 v)), (2, .ref (ad 3 0)), (3, .int 24), (4, .int (nI (j + 1)))] := by
              rw [e_4]
              exact lv_sub hl [2, 3, 4, 5, 0] rfl
            exact ih_19 (j + 1) (t9) (by omega) (by first | exact FIL_add (by assumption) (by assumption) hF | exact FIL_null (by assumption) hF | exact FIL_skip (by assumption) hF | exact FIL_skip (fun q => hv1 ((show σ 20 j = -1 from by assumption).symm.trans q)) hF) (by omega) _ _ hS ls hl2
          · refine x_get (K := 16) (i := j) (v := .ref (ad 18 (ti (σ 20 j)))) hx hb hts hinX0 hown hK hX z_2 8 rfl rfl (by decide) rfl lk164 (congrArg some (opt_in z_3)) dX6_fillPlan_38 ?_
            refine lv_aload_n hx hb dX6_fillPlan_41 rfl (lv_at hl 2 rfl) ?_
            refine x_acmp_ne (tgt := 54) hx hb dX6_fillPlan_42 (by decide) (fun c_5 => ?_) (fun c_5 => ?_)
            · replace c_5 := fun q => c_5 ((xa_iff hA (K := 18) (vin_lt (hI.2.2.2.2.2.2.1 _ z_2 z_3).1) hv).mpr q)
              replace c_5 : ¬ (σ 20 j) = nI v := fun q => c_5 ((ti_eq (vin_mono (hI.2.2.2.2.2.2.1 _ z_2 z_3).1 hI.v.1) (by decide)).mpr q)
              refine lv_iinc (v := ((nI j) + 1)) (lv' := [(4, .int ((nI j) + 1)), (5, .ref (ad 16 j)), (0, .ref (ad 0 0)), (1, .ref (ad 18 v)), (2, .ref (ad 3 0)), (3, .int 24)]) hx hb dX6_fillPlan_54 hl (k := 5) rfl rfl (by decide) rfl (fun ls hl => ?_)
              refine lv_goto (tgt := 19) hx hb dX6_fillPlan_57 (by decide) ?_
              have e_6 : ((nI (j + 1)) : Int32) = ((nI j) + 1) := (nI_1 j).symm
              have hl2 : lv_has ls 6 [(0, .ref (ad 0 0)), (1, .ref (ad 18 v)), (2, .ref (ad 3 0)), (3, .int 24), (4, .int (nI (j + 1)))] := by
                rw [e_6]
                exact lv_sub hl [2, 3, 4, 5, 0] rfl
              exact ih_19 (j + 1) (t9) (by omega) (by first | exact FIL_add (by assumption) (by assumption) hF | exact FIL_null (by assumption) hF | exact FIL_skip (by assumption) hF | exact FIL_skip (fun q => hv1 ((show σ 20 j = -1 from by assumption).symm.trans q)) hF) (by omega) _ _ hS ls hl2
            · replace c_5 := (xa_iff hA (K := 18) (vin_lt (hI.2.2.2.2.2.2.1 _ z_2 z_3).1) hv).mp c_5
              replace c_5 := (ti_eq (vin_mono (hI.2.2.2.2.2.2.1 _ z_2 z_3).1 hI.v.1) (by decide)).mp c_5
              refine lv_aload_n hx hb dX6_fillPlan_45 rfl (lv_at hl 1 rfl) ?_
              refine x_get (K := 0) (i := 0) (v := .ref (ad 7 0)) hx hb hts hinX6 hown hK hX (show 0 < 1 from Nat.zero_lt_one) 6 rfl rfl (by decide) rfl lk44 rfl dX6_fillPlan_46 ?_
              refine lv_aload hx hb dX6_fillPlan_49 (lv_at hl 0 rfl) ?_
              refine xc_mu (n := 1) (K := 7) (i := 0) (As := [.ref (ad 16 j)]) (rest := []) (v := []) ⟨hx, hb, hml, hown, hts⟩ hK hS Nat.zero_lt_one rfl rfl (qX2_add la g lo ad σ u t9 hA hI j z_2 (cntN σ (nI v) j) (cnt6 hI kv z_2 (by assumption)) (FIL_n z_2 hF)) gX6_fillPlan_X2_add rfl rfl rfl (by decide +kernel) ⟨Nat.le_of_ble_eq_true rfl, Nat.le_of_ble_eq_true rfl⟩ rfl hl.1 rfl (Nat.le_of_ble_eq_true rfl) dX6_fillPlan_51 ⟨Nat.zero_le _, Nat.zero_le _⟩ rfl rfl (fun H locs hS => ?_)
              replace hS : XS g lo ad σ u (tAdd σ t9 j (cntN σ (nI v) j)) s.heap H locs := hS
              have hX := hS.1
              refine lv_iinc (v := ((nI j) + 1)) (lv' := [(4, .int ((nI j) + 1)), (5, .ref (ad 16 j)), (0, .ref (ad 0 0)), (1, .ref (ad 18 v)), (2, .ref (ad 3 0)), (3, .int 24)]) hx hb dX6_fillPlan_54 hl (k := 5) rfl rfl (by decide) rfl (fun ls hl => ?_)
              refine lv_goto (tgt := 19) hx hb dX6_fillPlan_57 (by decide) ?_
              have e_7 : ((nI (j + 1)) : Int32) = ((nI j) + 1) := (nI_1 j).symm
              have hl2 : lv_has ls 6 [(0, .ref (ad 0 0)), (1, .ref (ad 18 v)), (2, .ref (ad 3 0)), (3, .int 24), (4, .int (nI (j + 1)))] := by
                rw [e_7]
                exact lv_sub hl [2, 3, 4, 5, 0] rfl
              exact ih_19 (j + 1) ((tAdd σ t9 j (cntN σ (nI v) j))) (by omega) (by first | exact FIL_add (by assumption) (by assumption) hF | exact FIL_null (by assumption) hF | exact FIL_skip (by assumption) hF | exact FIL_skip (fun q => hv1 ((show σ 20 j = -1 from by assumption).symm.trans q)) hF) (by omega) _ _ hS ls hl2
        · refine x_aald (K := 3) (t0 := 3) (C := RX0) (n := 24) (f := refA ad 16 (nL σ)) (j := (nI j)) (v := .null) hx hb hK hX (show 0 < 1 from Nat.zero_lt_one) rfl rfl (vin_nI hj1 (by decide)) (by rw [(ti_nI (by omega))]; exact refA_no z_2) dX6_fillPlan_28 ?_
          refine lv_astoreN (lv' := [(5, .null), (0, .ref (ad 0 0)), (1, .ref (ad 18 v)), (2, .ref (ad 3 0)), (3, .int 24), (4, .int (nI j))]) hx hb dX6_fillPlan_29 hl (by decide) rfl (fun ls hl => ?_)
          refine lv_aloadN hx hb dX6_fillPlan_31 (lv_at hl 0 rfl) ?_
          refine lv_ifnullN (tgt := 54) hx hb dX6_fillPlan_33 (by decide) ?_
          refine lv_iinc (v := ((nI j) + 1)) (lv' := [(4, .int ((nI j) + 1)), (5, .null), (0, .ref (ad 0 0)), (1, .ref (ad 18 v)), (2, .ref (ad 3 0)), (3, .int 24)]) hx hb dX6_fillPlan_54 hl (k := 5) rfl rfl (by decide) rfl (fun ls hl => ?_)
          refine lv_goto (tgt := 19) hx hb dX6_fillPlan_57 (by decide) ?_
          have e_8 : ((nI (j + 1)) : Int32) = ((nI j) + 1) := (nI_1 j).symm
          have hl2 : lv_has ls 6 [(0, .ref (ad 0 0)), (1, .ref (ad 18 v)), (2, .ref (ad 3 0)), (3, .int 24), (4, .int (nI (j + 1)))] := by
            rw [e_8]
            exact lv_sub hl [2, 3, 4, 5, 0] rfl
          exact ih_19 (j + 1) (t9) (by omega) (by first | exact FIL_add (by assumption) (by assumption) hF | exact FIL_null (by assumption) hF | exact FIL_skip (by assumption) hF | exact FIL_skip (fun q => hv1 ((show σ 20 j = -1 from by assumption).symm.trans q)) hF) (by omega) _ _ hS ls hl2
  have e_9 : ((nI (0)) : Int32) = 0 := (by first | rfl | (simp [-Int32.not_lt, -Int32.not_le, okL, okV, okO, okR, okD, isP, shP]; done) | (simp_all [-Int32.not_lt, -Int32.not_le, okL, okV, okO, okR, okD, isP, shP]; done))
  have hl2 : lv_has ls 6 [(0, .ref (ad 0 0)), (1, .ref (ad 18 v)), (2, .ref (ad 3 0)), (3, .int 24), (4, .int (nI (0)))] := by
    rw [e_9]
    exact lv_sub hl [3, 4, 2, 1, 0] rfl
  exact lp19 (24 - 0 + 1) (0) ((tBeg σ τ v)) (Nat.zero_le _) (FIL_beg τ (by omega)) (Nat.lt_succ_self _) _ _ hS ls hl2
