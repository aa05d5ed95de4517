set_option maxHeartbeats 4000000 in
set_option maxRecDepth 100000 in
theorem k_leastHours (la : Launch) (g : EG) (lo : Nat) (ma : Nat → Nat) (hA : MA lo ma) (σ : Sg) (u : Nat → Int64) (v : Int32) (hI : INV σ) : Met la yX7_leastHours wsX7_leastHours ({ frames := 3, cells := 0, slots := 0, locals := 72 } : Room) (va_Pc [.ref (ma 0), .int v] (fun U => MR g ma σ u U.heap ∧ KK g U)) (QM (.returned (some (.int (if okV σ v then nI (bestP (up σ 0 0 0) v).1 else 0)))) (fun H1 => MR g ma (F_lh σ v) u H1) (mown ma)) 0 0 (fun q => lo ≤ q) := by
  refine Met.ofW (cc := cX7_leastHours) (maxL := 2) (ret := (some .int)) (by decide) rfl ?_
  intro p e s m args below meth c s₁ B hml hv
  obtain ⟨rfl, hR0, hK⟩ := hv
  have hx := B.exec
  have hb := B.bytes
  have hr := B.returns
  have hts := atoms_spec (ws := wsX7_leastHours) B.pre
  have hown : s.vm.findClass RX7 = some m.cls := findClass_of_methodNamed B.named
  have hlocks := B.notSynchronized
  have hM : MS g lo ma σ u s.heap s.heap [] := MS.start hR0
  have hl := lv_entry ([.ref (ma 0), .int v]) (n := 2) (Nat.le_of_ble_eq_true rfl)
  rw [lg_entry_eq]
  generalize (lg_sl ([.ref (ma 0), .int v]) ++ List.replicate (2 - (lg_sl ([.ref (ma 0), .int v])).length) Slot.unset).toArray = ls at hl ⊢
  have hl : lv_has ls 2 [(0, .ref (ma 0)), (1, .int v)] := hl
  refine lv_aload_n hx hb dX7_leastHours_0 rfl (lv_at hl 0 rfl) ?_
  refine lv_iload_n hx hb dX7_leastHours_1 rfl (lv_at hl 1 rfl) ?_
  refine mc_mu (n := 1) (As := [.int v]) (rest := []) (v := [.int (if ¬ okV σ v then 1 else 0)]) ⟨hx, hb, hml, hown, hts⟩ hK hM (k_noVat la g lo ma hA σ u v ) gX7_leastHours_X7_noVat rfl rfl rfl (by decide +kernel) ⟨Nat.le_of_ble_eq_true rfl, Nat.le_of_ble_eq_true rfl⟩ rfl hl.1 rfl (Nat.le_of_ble_eq_true rfl) dX7_leastHours_2 ⟨Nat.zero_le _, Nat.zero_le _⟩ rfl (fun H locs hM => ?_)
  refine br_if_eq (c9 := ¬ okV σ v) (tgt := 12) hx hb dX7_leastHours_5 (by decide) (fun c_1 => ?_) (fun c_1 => ?_)
  · replace c_1 := Decidable.not_not.mp c_1
    replace hM := hM.cg (congrArg (fun z => up σ 0 0 z) (if_pos c_1))
    have kv := (okV_in hI v).mp c_1
    refine lv_aload_n hx hb dX7_leastHours_12 rfl (lv_at hl 0 rfl) ?_
    refine lv_iload_n hx hb dX7_leastHours_13 rfl (lv_at hl 1 rfl) ?_
    refine mc_mu (n := 1) (As := [.int v]) (rest := []) (v := [.int (nI (bestP (up σ 0 0 0) v).1)]) ⟨hx, hb, hml, hown, hts⟩ hK hM (k_least la g lo ma hA (up σ 0 0 0) u v (hI.up0 _) kv) gX7_leastHours_X7_least rfl rfl rfl (by decide +kernel) ⟨Nat.le_of_ble_eq_true rfl, Nat.le_of_ble_eq_true rfl⟩ rfl hl.1 rfl (Nat.le_of_ble_eq_true rfl) dX7_leastHours_14 ⟨Nat.zero_le _, Nat.zero_le _⟩ rfl (fun H locs hM => ?_)
    exact W.iret (v := (nI (bestP (up σ 0 0 0) v).1)) hx hb hr (fun t ht hW => ⟨congrArg (fun z => Outcome.returned (some (Value.int z))) (by first | rfl | (simp [-Int32.not_lt, -Int32.not_le, okL, okV, okO, okR, okD, isP, shP, F_lh, tL, tV, tO, tD, tLV, tN, c_1]; done) | (simp_all [-Int32.not_lt, -Int32.not_le, okL, okV, okO, okR, okD, isP, shP, F_lh, tL, tV, tO, tD, tLV, tN]; done)), by rw [ht]; exact (hM.cg (by first | rfl | (simp [-Int32.not_lt, -Int32.not_le, okL, okV, okO, okR, okD, isP, shP, F_lh, tL, tV, tO, tD, tLV, tN, c_1, up_id]; done) | (simp_all [-Int32.not_lt, -Int32.not_le, okL, okV, okO, okR, okD, isP, shP, F_lh, tL, tV, tO, tD, tLV, tN, up_id]; done))).1, by rw [ht]; exact hM.2.1, fun q hq => by rw [ht]; exact hM.2.2.1 q hq⟩) hM.2.2.2 dX7_leastHours_17
  · replace hM := hM.cg (congrArg (fun z => up σ 0 0 z) (if_neg c_1))
    refine lv_iconst (v := 0) hx hb dX7_leastHours_8 (by decide) ?_
    refine lv_goto (tgt := 17) hx hb dX7_leastHours_9 (by decide) ?_
    exact W.iret (v := 0) hx hb hr (fun t ht hW => ⟨congrArg (fun z => Outcome.returned (some (Value.int z))) (by first | rfl | (simp [-Int32.not_lt, -Int32.not_le, okL, okV, okO, okR, okD, isP, shP, F_lh, tL, tV, tO, tD, tLV, tN, c_1]; done) | (simp_all [-Int32.not_lt, -Int32.not_le, okL, okV, okO, okR, okD, isP, shP, F_lh, tL, tV, tO, tD, tLV, tN]; done)), by rw [ht]; exact (hM.cg (by first | rfl | (simp [-Int32.not_lt, -Int32.not_le, okL, okV, okO, okR, okD, isP, shP, F_lh, tL, tV, tO, tD, tLV, tN, c_1, up_id]; done) | (simp_all [-Int32.not_lt, -Int32.not_le, okL, okV, okO, okR, okD, isP, shP, F_lh, tL, tV, tO, tD, tLV, tN, up_id]; done))).1, by rw [ht]; exact hM.2.1, fun q hq => by rw [ht]; exact hM.2.2.1 q hq⟩) hM.2.2.2 dX7_leastHours_17
set_option maxHeartbeats 4000000 in
set_option maxRecDepth 100000 in
theorem k_leastByAll (la : Launch) (g : EG) (lo : Nat) (ma : Nat → Nat) (hA : MA lo ma) (σ : Sg) (u : Nat → Int64) (v : Int32) (hI : INV σ) : Met la yX7_leastByAll wsX7_leastByAll ({ frames := 4, cells := 0, slots := 0, locals := 93 } : Room) (va_Pc [.ref (ma 0), .int v] (fun U => MR g ma σ u U.heap ∧ KK g U)) (QM (.returned (some (.int (if okV σ v then nI (bestP (up σ 0 0 0) v).1 else 0)))) (fun H1 => MR g ma (F_lh σ v) u H1) (mown ma)) 0 0 (fun q => lo ≤ q) := by
  refine Met.ofW (cc := cX7_leastByAll) (maxL := 2) (ret := (some .int)) (by decide) rfl ?_
  intro p e s m args below meth c s₁ B hml hv
  obtain ⟨rfl, hR0, hK⟩ := hv
  have hx := B.exec
  have hb := B.bytes
  have hr := B.returns
  have hts := atoms_spec (ws := wsX7_leastByAll) B.pre
  have hown : s.vm.findClass RX7 = some m.cls := findClass_of_methodNamed B.named
  have hlocks := B.notSynchronized
  have hM : MS g lo ma σ u s.heap s.heap [] := MS.start hR0
  have hl := lv_entry ([.ref (ma 0), .int v]) (n := 2) (Nat.le_of_ble_eq_true rfl)
  rw [lg_entry_eq]
  generalize (lg_sl ([.ref (ma 0), .int v]) ++ List.replicate (2 - (lg_sl ([.ref (ma 0), .int v])).length) Slot.unset).toArray = ls at hl ⊢
  have hl : lv_has ls 2 [(0, .ref (ma 0)), (1, .int v)] := hl
  refine lv_aload_n hx hb dX7_leastByAll_0 rfl (lv_at hl 0 rfl) ?_
  refine lv_iload_n hx hb dX7_leastByAll_1 rfl (lv_at hl 1 rfl) ?_
  refine mc_mu (n := 1) (As := [.int v]) (rest := []) (v := [.int (if okV σ v then nI (bestP (up σ 0 0 0) v).1 else 0)]) ⟨hx, hb, hml, hown, hts⟩ hK hM (k_leastHours la g lo ma hA σ u v hI) gX7_leastByAll_X7_leastHours rfl rfl rfl (by decide +kernel) ⟨Nat.le_of_ble_eq_true rfl, Nat.le_of_ble_eq_true rfl⟩ rfl hl.1 rfl (Nat.le_of_ble_eq_true rfl) dX7_leastByAll_2 ⟨Nat.zero_le _, Nat.zero_le _⟩ rfl (fun H locs hM => ?_)
  exact W.iret (v := (if okV σ v then nI (bestP (up σ 0 0 0) v).1 else 0)) hx hb hr (fun t ht hW => ⟨congrArg (fun z => Outcome.returned (some (Value.int z))) (by first | rfl | (simp [-Int32.not_lt, -Int32.not_le, okL, okV, okO, okR, okD, isP, shP, tL, tV, tO, tD, tLV, tN]; done) | (simp_all [-Int32.not_lt, -Int32.not_le, okL, okV, okO, okR, okD, isP, shP, tL, tV, tO, tD, tLV, tN]; done)), by rw [ht]; exact (hM.cg (by first | rfl | (simp [-Int32.not_lt, -Int32.not_le, okL, okV, okO, okR, okD, isP, shP, tL, tV, tO, tD, tLV, tN, up_id]; done) | (simp_all [-Int32.not_lt, -Int32.not_le, okL, okV, okO, okR, okD, isP, shP, tL, tV, tO, tD, tLV, tN, up_id]; done))).1, by rw [ht]; exact hM.2.1, fun q hq => by rw [ht]; exact hM.2.2.1 q hq⟩) hM.2.2.2 dX7_leastByAll_5
set_option maxHeartbeats 4000000 in
set_option maxRecDepth 100000 in
theorem k_firstOf (la : Launch) (g : EG) (lo : Nat) (ma : Nat → Nat) (hA : MA lo ma) (σ : Sg) (u : Nat → Int64) (v : Int32) (hI : INV σ) : Met la yX7_firstOf wsX7_firstOf ({ frames := 3, cells := 0, slots := 0, locals := 72 } : Room) (va_Pc [.ref (ma 0), .int v] (fun U => MR g ma σ u U.heap ∧ KK g U)) (QM (.returned (some (.int (if t_firstOf σ v = 0 then tkP (up σ 0 0 0) v (bestP (up σ 0 0 0) v).2 else 0)))) (fun H1 => MR g ma (F_firstOf σ v) u H1) (mown ma)) 0 0 (fun q => lo ≤ q) := by
  refine Met.ofW (cc := cX7_firstOf) (maxL := 3) (ret := (some .int)) (by decide) rfl ?_
  intro p e s m args below meth c s₁ B hml hv
  obtain ⟨rfl, hR0, hK⟩ := hv
  have hx := B.exec
  have hb := B.bytes
  have hr := B.returns
  have hts := atoms_spec (ws := wsX7_firstOf) B.pre
  have hown : s.vm.findClass RX7 = some m.cls := findClass_of_methodNamed B.named
  have hlocks := B.notSynchronized
  have hM : MS g lo ma σ u s.heap s.heap [] := MS.start hR0
  have hinX7 : ∀ w ∈ wsX70, w ∈ wsX7_firstOf := by decide +kernel
  have lk81 := hts (.fieldLink RX7 81 "DyehouseLedgerModel" "taken" "[I") (by decide +kernel)
  have hl := lv_entry ([.ref (ma 0), .int v]) (n := 3) (Nat.le_of_ble_eq_true rfl)
  rw [lg_entry_eq]
  generalize (lg_sl ([.ref (ma 0), .int v]) ++ List.replicate (3 - (lg_sl ([.ref (ma 0), .int v])).length) Slot.unset).toArray = ls at hl ⊢
  have hl : lv_has ls 3 [(0, .ref (ma 0)), (1, .int v)] := hl
  refine lv_aload_n hx hb dX7_firstOf_0 rfl (lv_at hl 0 rfl) ?_
  refine lv_iload_n hx hb dX7_firstOf_1 rfl (lv_at hl 1 rfl) ?_
  refine mc_mu (n := 1) (As := [.int v]) (rest := []) (v := [.int (if ¬ okV σ v then 1 else 0)]) ⟨hx, hb, hml, hown, hts⟩ hK hM (k_noVat la g lo ma hA σ u v ) gX7_firstOf_X7_noVat rfl rfl rfl (by decide +kernel) ⟨Nat.le_of_ble_eq_true rfl, Nat.le_of_ble_eq_true rfl⟩ rfl hl.1 rfl (Nat.le_of_ble_eq_true rfl) dX7_firstOf_2 ⟨Nat.zero_le _, Nat.zero_le _⟩ rfl (fun H locs hM => ?_)
  refine br_if_eq (c9 := ¬ okV σ v) (tgt := 10) hx hb dX7_firstOf_5 (by decide) (fun c_1 => ?_) (fun c_1 => ?_)
  · replace c_1 := Decidable.not_not.mp c_1
    replace hM := hM.cg (congrArg (fun z => up σ 0 0 z) (if_pos c_1))
    have kv := (okV_in hI v).mp c_1
    refine lv_aload_n hx hb dX7_firstOf_10 rfl (lv_at hl 0 rfl) ?_
    refine lv_iload_n hx hb dX7_firstOf_11 rfl (lv_at hl 1 rfl) ?_
    refine mc_ro (n := 1) (As := [.int v]) (rest := []) (v := [.int (f_inPlan σ v)]) ⟨hx, hb, hml, hown, hts⟩ hK hM (k_inPlan la g ma (up σ 0 0 0) u v hI.1.2.2.1) gX7_firstOf_X7_inPlan rfl rfl rfl (by decide +kernel) ⟨Nat.le_of_ble_eq_true rfl, Nat.le_of_ble_eq_true rfl⟩ rfl hl.1 rfl (Nat.le_of_ble_eq_true rfl) dX7_firstOf_12 ⟨Nat.zero_le _, Nat.zero_le _⟩ rfl ?_
    refine lv_if_ne (tgt := 24) hx hb dX7_firstOf_15 (by decide) (fun c_2 => ?_) (fun c_2 => ?_)
    · refine lv_aload_n hx hb dX7_firstOf_24 rfl (lv_at hl 0 rfl) ?_
      refine lv_iload_n hx hb dX7_firstOf_25 rfl (lv_at hl 1 rfl) ?_
      refine mc_mu (n := 1) (As := [.int v]) (rest := []) (v := [.int (nI (bestP (up σ 0 0 0) v).1)]) ⟨hx, hb, hml, hown, hts⟩ hK hM (k_least la g lo ma hA (up σ 0 0 0) u v (hI.up0 _) kv) gX7_firstOf_X7_least rfl rfl rfl (by decide +kernel) ⟨Nat.le_of_ble_eq_true rfl, Nat.le_of_ble_eq_true rfl⟩ rfl hl.1 rfl (Nat.le_of_ble_eq_true rfl) dX7_firstOf_26 ⟨Nat.zero_le _, Nat.zero_le _⟩ rfl (fun H locs hM => ?_)
      refine lv_istore_n (lv' := [(2, .int (nI (bestP (up σ 0 0 0) v).1)), (0, .ref (ma 0)), (1, .int v)]) hx hb dX7_firstOf_29 rfl hl (by decide) rfl (fun ls hl => ?_)
      refine lv_aload_n hx hb dX7_firstOf_30 rfl (lv_at hl 1 rfl) ?_
      refine m_get (v := .ref (ma 28)) hx hb hts hinX7 hown hK hM 28 (by decide) lk81 rfl dX7_firstOf_31 ?_
      refine lv_iconst (v := 0) hx hb dX7_firstOf_34 (by decide) ?_
      refine m_iald (x := (tkP (up σ 0 0 0) v (bestP (up σ 0 0 0) v).2)) hx hb hK hM 28 (by decide) rfl (i := 0) (n := 1) (vin_dec (by decide +kernel)) (by rw [ti_0]; unfold F_least; exact up_on _ _) dX7_firstOf_35 ?_
      exact W.iret (v := (tkP (up σ 0 0 0) v (bestP (up σ 0 0 0) v).2)) hx hb hr (fun t ht hW => ⟨congrArg (fun z => Outcome.returned (some (Value.int z))) (by first | rfl | (simp [-Int32.not_lt, -Int32.not_le, okL, okV, okO, okR, okD, isP, shP, F_firstOf, t_firstOf, tL, tV, tO, tD, tLV, tN, c_1, c_2]; done) | (simp_all [-Int32.not_lt, -Int32.not_le, okL, okV, okO, okR, okD, isP, shP, F_firstOf, t_firstOf, tL, tV, tO, tD, tLV, tN]; done)), by rw [ht]; exact (hM.cg (by first | rfl | (simp [-Int32.not_lt, -Int32.not_le, okL, okV, okO, okR, okD, isP, shP, F_firstOf, t_firstOf, tL, tV, tO, tD, tLV, tN, c_1, c_2, up_id]; done) | (simp_all [-Int32.not_lt, -Int32.not_le, okL, okV, okO, okR, okD, isP, shP, F_firstOf, t_firstOf, tL, tV, tO, tD, tLV, tN, up_id]; done))).1, by rw [ht]; exact hM.2.1, fun q hq => by rw [ht]; exact hM.2.2.1 q hq⟩) hM.2.2.2 dX7_firstOf_36
    · refine lv_aload_n hx hb dX7_firstOf_18 rfl (lv_at hl 0 rfl) ?_
      refine lv_iconst (v := 2) hx hb dX7_firstOf_19 (by decide) ?_
      refine mc_mu (n := 1) (As := [.int 2]) (rest := []) (v := [.int 0]) ⟨hx, hb, hml, hown, hts⟩ hK hM (k_refuse la g lo ma hA (up σ 0 0 0) u 2 ) gX7_firstOf_X7_refuse rfl rfl rfl (by decide +kernel) ⟨Nat.le_of_ble_eq_true rfl, Nat.le_of_ble_eq_true rfl⟩ rfl hl.1 rfl (Nat.le_of_ble_eq_true rfl) dX7_firstOf_20 ⟨Nat.zero_le _, Nat.zero_le _⟩ rfl (fun H locs hM => ?_)
      replace hM := hM.cg (up_up σ 0 0 0 2)
      exact W.iret (v := 0) hx hb hr (fun t ht hW => ⟨congrArg (fun z => Outcome.returned (some (Value.int z))) (by first | rfl | (simp [-Int32.not_lt, -Int32.not_le, okL, okV, okO, okR, okD, isP, shP, F_firstOf, t_firstOf, tL, tV, tO, tD, tLV, tN, c_1, c_2]; done) | (simp_all [-Int32.not_lt, -Int32.not_le, okL, okV, okO, okR, okD, isP, shP, F_firstOf, t_firstOf, tL, tV, tO, tD, tLV, tN]; done)), by rw [ht]; exact (hM.cg (by first | rfl | (simp [-Int32.not_lt, -Int32.not_le, okL, okV, okO, okR, okD, isP, shP, F_firstOf, t_firstOf, tL, tV, tO, tD, tLV, tN, c_1, c_2, up_id]; done) | (simp_all [-Int32.not_lt, -Int32.not_le, okL, okV, okO, okR, okD, isP, shP, F_firstOf, t_firstOf, tL, tV, tO, tD, tLV, tN, up_id]; done))).1, by rw [ht]; exact hM.2.1, fun q hq => by rw [ht]; exact hM.2.2.1 q hq⟩) hM.2.2.2 dX7_firstOf_23
  · replace hM := hM.cg (congrArg (fun z => up σ 0 0 z) (if_neg c_1))
    refine lv_iconst (v := 0) hx hb dX7_firstOf_8 (by decide) ?_
    exact W.iret (v := 0) hx hb hr (fun t ht hW => ⟨congrArg (fun z => Outcome.returned (some (Value.int z))) (by first | rfl | (simp [-Int32.not_lt, -Int32.not_le, okL, okV, okO, okR, okD, isP, shP, F_firstOf, t_firstOf, tL, tV, tO, tD, tLV, tN, c_1]; done) | (simp_all [-Int32.not_lt, -Int32.not_le, okL, okV, okO, okR, okD, isP, shP, F_firstOf, t_firstOf, tL, tV, tO, tD, tLV, tN]; done)), by rw [ht]; exact (hM.cg (by first | rfl | (simp [-Int32.not_lt, -Int32.not_le, okL, okV, okO, okR, okD, isP, shP, F_firstOf, t_firstOf, tL, tV, tO, tD, tLV, tN, c_1, up_id]; done) | (simp_all [-Int32.not_lt, -Int32.not_le, okL, okV, okO, okR, okD, isP, shP, F_firstOf, t_firstOf, tL, tV, tO, tD, tLV, tN, up_id]; done))).1, by rw [ht]; exact hM.2.1, fun q hq => by rw [ht]; exact hM.2.2.1 q hq⟩) hM.2.2.2 dX7_firstOf_9
