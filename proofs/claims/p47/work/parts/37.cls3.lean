set_option maxHeartbeats 4000000 in
set_option maxRecDepth 100000 in
theorem qX6_needs (la : Launch) (hst : la.stackTraces = false) (g : EG) (lo : Nat) (ad : Nat → Nat → Nat) (σ : Sg) (u : Nat → Int64) (τ : Sg) (hI : INV σ) (hA : XA lo ad σ) (l d : Int32) : vx_Met la yX6_needs wsX6_needs ({ frames := 8, cells := 2, slots := 12, locals := 142 } : Room) (va_Pc [.ref (ad 0 0), .int l, .int d] (fun U => XR g ad σ u τ U.heap ∧ EV g lo U)) (QX (exOf 1 2 0 (t_needs σ l d)) (.returned (some (.int (f_needed σ l d))))) (XX (exOf 1 2 0 (t_needs σ l d))) 2 12 (fun _ => False) := by
  refine vx_ofW (cc := cX6_needs) (maxL := 4) (ret := (some .int)) (by decide) rfl ?_
  intro p e s m args below meth c s₁ B hml ht hv
  obtain ⟨rfl, hX, hE⟩ := hv
  have hK := hE.1
  have hx := B.exec
  have hb := B.bytes
  have hr := B.returns
  have hts := atoms_spec (ws := wsX6_needs) B.pre
  have hown : s.vm.findClass RX6 = some m.cls := findClass_of_methodNamed B.named
  have hlocks := B.notSynchronized
  have hl := lv_entry ([.ref (ad 0 0), .int l, .int d]) (n := 4) (Nat.le_of_ble_eq_true rfl)
  rw [lg_entry_eq]
  generalize (lg_sl ([.ref (ad 0 0), .int l, .int d]) ++ List.replicate (4 - (lg_sl ([.ref (ad 0 0), .int l, .int d])).length) Slot.unset).toArray = ls at hl ⊢
  have hl : lv_has ls 4 [(0, .ref (ad 0 0)), (1, .int l), (2, .int d)] := hl
  have hbL := hI.l.1
  have hbO := hI.o.1
  have hbV := hI.v.1
  by_cases kl9 : okL σ l
  · obtain ⟨i, hi, rfl⟩ := vp_in_of ((okL_in hI l).mp kl9) (Nat.lt_of_le_of_lt hI.l.1 (by decide))
    have hbi : nL σ ≤ _ := hI.l.1
    have eti : ti (nI i) = i := ti_nI (by omega)
    refine lv_aload_n hx hb dX6_needs_0 rfl (lv_at hl 0 rfl) ?_
    refine lv_iload_n hx hb dX6_needs_1 rfl (lv_at hl 1 rfl) ?_
    refine xc_v (n := 1) (As := [.int (nI i)]) (rest := []) (v := [.ref (ad 16 i)]) ⟨hx, hb, hml, hown, hts⟩ hE hX ht hlocks (fun q => absurd (show eL σ (nI i) = 0 from if_pos kl9) q) (qX6_lotNumbered la hst g lo ad σ u τ hI (nI i)) gX6_needs_X6_lotNumbered rfl rfl rfl (by decide +kernel) ⟨Nat.le_of_ble_eq_true rfl, Nat.le_of_ble_eq_true rfl⟩ rfl hl.1 rfl (Nat.le_of_ble_eq_true rfl) dX6_needs_2 ⟨Nat.le_of_ble_eq_true rfl, Nat.le_of_ble_eq_true rfl⟩ ⟨Nat.le_of_ble_eq_true rfl, Nat.le_of_ble_eq_true rfl⟩ (fun _ => congrArg (fun z => [Value.ref (ad 16 z)]) (ti_nI (by omega))) (fun h_1 => ?_)
    refine lv_astore_n (lv' := [(3, .ref (ad 16 i)), (0, .ref (ad 0 0)), (1, .int (nI i)), (2, .int d)]) hx hb dX6_needs_5 rfl hl (by decide) rfl (fun ls hl => ?_)
    refine lv_iload_n hx hb dX6_needs_6 rfl (lv_at hl 3 rfl) ?_
    refine xc_s (n := 1) (As := [.int d]) (rest := []) (v := []) ⟨hx, hb, hml, hown, hts⟩ hE ht hlocks (fun q => by have h9 : ¬ (okD d) := fun z => q (show eD d = 0 from if_pos z); exact (show (exOf 1 2 0 (t_needs σ (nI i) d)) = 2 from by rw [show (t_needs σ (nI i) d) = 2 from (by simp only [tD, tL, tV, tO, tW, tLV, tN, t_needs, t_plannedAt, t_shadeOf, t_dist, t_near, t_cell, t_byLight, t_dues, t_share, t_mean, okW, eti]; (repeat' split) <;> first | rfl | contradiction | (exfalso; simp_all [-Int32.not_lt, -Int32.not_le]; done))]; rfl).trans (show eD d = 2 from if_neg h9).symm) (qX6_checkDye la hst g lo d) gX6_needs_X6_checkDye rfl rfl rfl (by decide +kernel) ⟨Nat.le_of_ble_eq_true rfl, Nat.le_of_ble_eq_true rfl⟩ rfl hl.1 rfl (Nat.le_of_ble_eq_true rfl) dX6_needs_7 ⟨Nat.le_of_ble_eq_true rfl, Nat.le_of_ble_eq_true rfl⟩ ⟨Nat.le_of_ble_eq_true rfl, Nat.le_of_ble_eq_true rfl⟩ (fun _ => rfl) (fun h_3 => ?_)
    have kc_2 : okD d := Decidable.byContradiction fun z => absurd (show eD d = 0 from h_3) (by rw [show eD d = 2 from if_neg z]; decide)
    have kd := (okD_in d).mp kc_2
    refine lv_aload_n hx hb dX6_needs_10 rfl (lv_at hl 0 rfl) ?_
    refine lv_iload_n hx hb dX6_needs_11 rfl (lv_at hl 3 rfl) ?_
    refine xc_ro (n := 1) (K := 16) (i := i) (As := [.int d]) (rest := []) (v := [.int (f_needed σ (nI i) d)]) ⟨hx, hb, hml, hown, hts⟩ hK hX hi rfl rfl (qX0_gramsNeeded la g ad σ u τ hI i hi d (by assumption)) gX6_needs_X0_gramsNeeded rfl rfl rfl (by decide +kernel) ⟨Nat.le_of_ble_eq_true rfl, Nat.le_of_ble_eq_true rfl⟩ rfl hl.1 rfl (Nat.le_of_ble_eq_true rfl) dX6_needs_12 ⟨Nat.le_of_ble_eq_true rfl, Nat.le_of_ble_eq_true rfl⟩ rfl ?_
    refine vx_ret ?_
    refine W.widen (k := 2) (n := 12) (Nat.le_of_ble_eq_true rfl) (Nat.le_of_ble_eq_true rfl) ?_
    exact W.iret (v := (f_needed σ (nI i) d)) hx hb hr (fun t ht9 hW => ⟨(show (exOf 1 2 0 (t_needs σ (nI i) d)) = 0 from by rw [show (t_needs σ (nI i) d) = 0 from (by simp only [tD, tL, tV, tO, tW, tLV, tN, t_needs, t_plannedAt, t_shadeOf, t_dist, t_near, t_cell, t_byLight, t_dues, t_share, t_mean, okW, eti]; (repeat' split) <;> first | rfl | contradiction | (exfalso; simp_all [-Int32.not_lt, -Int32.not_le]; done))]; rfl), congrArg (fun z => Outcome.returned (some (Value.int z))) (by first | rfl | (simp [-Int32.not_lt, -Int32.not_le, okL, okV, okO, okR, okD, isP, shP, eti, kl9, h_1, kc_2, h_3]; done) | (simp_all [-Int32.not_lt, -Int32.not_le, okL, okV, okO, okR, okD, isP, shP]; done)), ht9⟩) (fun _ h => nomatch h) dX6_needs_15
  · refine lv_aload_n hx hb dX6_needs_0 rfl (lv_at hl 0 rfl) ?_
    refine lv_iload_n hx hb dX6_needs_1 rfl (lv_at hl 1 rfl) ?_
    refine xc_v (n := 1) (As := [.int l]) (rest := []) (v := [.ref (ad 16 (ti l))]) ⟨hx, hb, hml, hown, hts⟩ hE hX ht hlocks (fun _ => ((show (exOf 1 2 0 (t_needs σ l d)) = 1 from by rw [show (t_needs σ l d) = 1 from (by simp only [tD, tL, tV, tO, tW, tLV, tN, t_needs, t_plannedAt, t_shadeOf, t_dist, t_near, t_cell, t_byLight, t_dues, t_share, t_mean, okW]; (repeat' split) <;> first | rfl | contradiction | (exfalso; simp_all [-Int32.not_lt, -Int32.not_le]; done))]; rfl)).trans (show eL σ l = 1 from if_neg kl9).symm) (qX6_lotNumbered la hst g lo ad σ u τ hI l) gX6_needs_X6_lotNumbered rfl rfl rfl (by decide +kernel) ⟨Nat.le_of_ble_eq_true rfl, Nat.le_of_ble_eq_true rfl⟩ rfl hl.1 rfl (Nat.le_of_ble_eq_true rfl) dX6_needs_2 ⟨Nat.le_of_ble_eq_true rfl, Nat.le_of_ble_eq_true rfl⟩ ⟨Nat.le_of_ble_eq_true rfl, Nat.le_of_ble_eq_true rfl⟩ (fun _ => rfl) (fun h_5 => ?_)
    exact absurd h_5 (by rw [show eL σ l = 1 from if_neg kl9]; decide)
set_option maxHeartbeats 4000000 in
set_option maxRecDepth 100000 in
theorem qX6_hoursFor (la : Launch) (hst : la.stackTraces = false) (g : EG) (lo : Nat) (ad : Nat → Nat → Nat) (σ : Sg) (u : Nat → Int64) (τ : Sg) (hI : INV σ) (hA : XA lo ad σ) (l : Int32) : vx_Met la yX6_hoursFor wsX6_hoursFor ({ frames := 7, cells := 1, slots := 6, locals := 122 } : Room) (va_Pc [.ref (ad 0 0), .int l] (fun U => XR g ad σ u τ U.heap ∧ EV g lo U)) (QX (exOf 1 0 0 (tL σ l)) (.returned (some (.int (f_hours σ l))))) (XX (exOf 1 0 0 (tL σ l))) 1 6 (fun _ => False) := by
  refine vx_ofW (cc := cX6_hoursFor) (maxL := 2) (ret := (some .int)) (by decide) rfl ?_
  intro p e s m args below meth c s₁ B hml ht hv
  obtain ⟨rfl, hX, hE⟩ := hv
  have hK := hE.1
  have hx := B.exec
  have hb := B.bytes
  have hr := B.returns
  have hts := atoms_spec (ws := wsX6_hoursFor) B.pre
  have hown : s.vm.findClass RX6 = some m.cls := findClass_of_methodNamed B.named
  have hlocks := B.notSynchronized
  have hl := lv_entry ([.ref (ad 0 0), .int l]) (n := 2) (Nat.le_of_ble_eq_true rfl)
  rw [lg_entry_eq]
  generalize (lg_sl ([.ref (ad 0 0), .int l]) ++ List.replicate (2 - (lg_sl ([.ref (ad 0 0), .int l])).length) Slot.unset).toArray = ls at hl ⊢
  have hl : lv_has ls 2 [(0, .ref (ad 0 0)), (1, .int l)] := hl
  have hbL := hI.l.1
  have hbO := hI.o.1
  have hbV := hI.v.1
  by_cases kl9 : okL σ l
  · obtain ⟨i, hi, rfl⟩ := vp_in_of ((okL_in hI l).mp kl9) (Nat.lt_of_le_of_lt hI.l.1 (by decide))
    have hbi : nL σ ≤ _ := hI.l.1
    have eti : ti (nI i) = i := ti_nI (by omega)
    refine lv_aload_n hx hb dX6_hoursFor_0 rfl (lv_at hl 0 rfl) ?_
    refine lv_iload_n hx hb dX6_hoursFor_1 rfl (lv_at hl 1 rfl) ?_
    refine xc_v (n := 1) (As := [.int (nI i)]) (rest := []) (v := [.ref (ad 16 i)]) ⟨hx, hb, hml, hown, hts⟩ hE hX ht hlocks (fun q => absurd (show eL σ (nI i) = 0 from if_pos kl9) q) (qX6_lotNumbered la hst g lo ad σ u τ hI (nI i)) gX6_hoursFor_X6_lotNumbered rfl rfl rfl (by decide +kernel) ⟨Nat.le_of_ble_eq_true rfl, Nat.le_of_ble_eq_true rfl⟩ rfl hl.1 rfl (Nat.le_of_ble_eq_true rfl) dX6_hoursFor_2 ⟨Nat.le_of_ble_eq_true rfl, Nat.le_of_ble_eq_true rfl⟩ ⟨Nat.le_of_ble_eq_true rfl, Nat.le_of_ble_eq_true rfl⟩ (fun _ => congrArg (fun z => [Value.ref (ad 16 z)]) (ti_nI (by omega))) (fun h_1 => ?_)
    refine xc_ro (n := 0) (K := 16) (i := i) (As := []) (rest := []) (v := [.int (f_hours σ (nI i))]) ⟨hx, hb, hml, hown, hts⟩ hK hX hi rfl rfl (qX0_dyeingHours la g ad σ u τ hI i hi) gX6_hoursFor_X0_dyeingHours rfl rfl rfl (by decide +kernel) ⟨Nat.le_of_ble_eq_true rfl, Nat.le_of_ble_eq_true rfl⟩ rfl hl.1 rfl (Nat.le_of_ble_eq_true rfl) dX6_hoursFor_5 ⟨Nat.le_of_ble_eq_true rfl, Nat.le_of_ble_eq_true rfl⟩ rfl ?_
    refine vx_ret ?_
    refine W.widen (k := 1) (n := 6) (Nat.le_of_ble_eq_true rfl) (Nat.le_of_ble_eq_true rfl) ?_
    exact W.iret (v := (f_hours σ (nI i))) hx hb hr (fun t ht9 hW => ⟨(show (exOf 1 0 0 (tL σ (nI i))) = 0 from by rw [show (tL σ (nI i)) = 0 from (by simp only [tD, tL, tV, tO, tW, tLV, tN, t_needs, t_plannedAt, t_shadeOf, t_dist, t_near, t_cell, t_byLight, t_dues, t_share, t_mean, okW, eti]; (repeat' split) <;> first | rfl | contradiction | (exfalso; simp_all [-Int32.not_lt, -Int32.not_le]; done))]; rfl), congrArg (fun z => Outcome.returned (some (Value.int z))) (by first | rfl | (simp [-Int32.not_lt, -Int32.not_le, okL, okV, okO, okR, okD, isP, shP, eti, kl9, h_1]; done) | (simp_all [-Int32.not_lt, -Int32.not_le, okL, okV, okO, okR, okD, isP, shP]; done)), ht9⟩) (fun _ h => nomatch h) dX6_hoursFor_8
  · refine lv_aload_n hx hb dX6_hoursFor_0 rfl (lv_at hl 0 rfl) ?_
    refine lv_iload_n hx hb dX6_hoursFor_1 rfl (lv_at hl 1 rfl) ?_
    refine xc_v (n := 1) (As := [.int l]) (rest := []) (v := [.ref (ad 16 (ti l))]) ⟨hx, hb, hml, hown, hts⟩ hE hX ht hlocks (fun _ => ((show (exOf 1 0 0 (tL σ l)) = 1 from by rw [show (tL σ l) = 1 from (by simp only [tD, tL, tV, tO, tW, tLV, tN, t_needs, t_plannedAt, t_shadeOf, t_dist, t_near, t_cell, t_byLight, t_dues, t_share, t_mean, okW]; (repeat' split) <;> first | rfl | contradiction | (exfalso; simp_all [-Int32.not_lt, -Int32.not_le]; done))]; rfl)).trans (show eL σ l = 1 from if_neg kl9).symm) (qX6_lotNumbered la hst g lo ad σ u τ hI l) gX6_hoursFor_X6_lotNumbered rfl rfl rfl (by decide +kernel) ⟨Nat.le_of_ble_eq_true rfl, Nat.le_of_ble_eq_true rfl⟩ rfl hl.1 rfl (Nat.le_of_ble_eq_true rfl) dX6_hoursFor_2 ⟨Nat.le_of_ble_eq_true rfl, Nat.le_of_ble_eq_true rfl⟩ ⟨Nat.le_of_ble_eq_true rfl, Nat.le_of_ble_eq_true rfl⟩ (fun _ => rfl) (fun h_3 => ?_)
    exact absurd h_3 (by rw [show eL σ l = 1 from if_neg kl9]; decide)
set_option maxHeartbeats 4000000 in
set_option maxRecDepth 100000 in
theorem qX6_reason (la : Launch) (hst : la.stackTraces = false) (g : EG) (lo : Nat) (ad : Nat → Nat → Nat) (σ : Sg) (u : Nat → Int64) (τ : Sg) (hI : INV σ) (hA : XA lo ad σ) (l v : Int32) : vx_Met la yX6_reason wsX6_reason ({ frames := 7, cells := 2, slots := 12, locals := 122 } : Room) (va_Pc [.ref (ad 0 0), .int l, .int v] (fun U => XR g ad σ u τ U.heap ∧ EV g lo U)) (QX (exOf 1 0 0 (tLV σ l v)) (.returned (some (.int (f_why σ l v))))) (XX (exOf 1 0 0 (tLV σ l v))) 2 12 (fun _ => False) := by
  refine vx_ofW (cc := cX6_reason) (maxL := 4) (ret := (some .char)) (by decide) rfl ?_
  intro p e s m args below meth c s₁ B hml ht hv
  obtain ⟨rfl, hX, hE⟩ := hv
  have hK := hE.1
  have hx := B.exec
  have hb := B.bytes
  have hr := B.returns
  have hts := atoms_spec (ws := wsX6_reason) B.pre
  have hown : s.vm.findClass RX6 = some m.cls := findClass_of_methodNamed B.named
  have hlocks := B.notSynchronized
  have hl := lv_entry ([.ref (ad 0 0), .int l, .int v]) (n := 4) (Nat.le_of_ble_eq_true rfl)
  rw [lg_entry_eq]
  generalize (lg_sl ([.ref (ad 0 0), .int l, .int v]) ++ List.replicate (4 - (lg_sl ([.ref (ad 0 0), .int l, .int v])).length) Slot.unset).toArray = ls at hl ⊢
  have hl : lv_has ls 4 [(0, .ref (ad 0 0)), (1, .int l), (2, .int v)] := hl
  have hbL := hI.l.1
  have hbO := hI.o.1
  have hbV := hI.v.1
  by_cases kl9 : okL σ l
  · obtain ⟨i, hi, rfl⟩ := vp_in_of ((okL_in hI l).mp kl9) (Nat.lt_of_le_of_lt hI.l.1 (by decide))
    have hbi : nL σ ≤ _ := hI.l.1
    have eti : ti (nI i) = i := ti_nI (by omega)
    by_cases kv9 : okV σ v
    · obtain ⟨w, hw, rfl⟩ := vp_in_of ((okV_in hI v).mp kv9) (Nat.lt_of_le_of_lt hI.v.1 (by decide))
      have hbw : nV σ ≤ _ := hI.v.1
      have etw : ti (nI w) = w := ti_nI (by omega)
      refine lv_aload_n hx hb dX6_reason_0 rfl (lv_at hl 0 rfl) ?_
      refine lv_iload_n hx hb dX6_reason_1 rfl (lv_at hl 1 rfl) ?_
      refine xc_v (n := 1) (As := [.int (nI i)]) (rest := []) (v := [.ref (ad 16 i)]) ⟨hx, hb, hml, hown, hts⟩ hE hX ht hlocks (fun q => absurd (show eL σ (nI i) = 0 from if_pos kl9) q) (qX6_lotNumbered la hst g lo ad σ u τ hI (nI i)) gX6_reason_X6_lotNumbered rfl rfl rfl (by decide +kernel) ⟨Nat.le_of_ble_eq_true rfl, Nat.le_of_ble_eq_true rfl⟩ rfl hl.1 rfl (Nat.le_of_ble_eq_true rfl) dX6_reason_2 ⟨Nat.le_of_ble_eq_true rfl, Nat.le_of_ble_eq_true rfl⟩ ⟨Nat.le_of_ble_eq_true rfl, Nat.le_of_ble_eq_true rfl⟩ (fun _ => congrArg (fun z => [Value.ref (ad 16 z)]) (ti_nI (by omega))) (fun h_1 => ?_)
      refine lv_astore_n (lv' := [(3, .ref (ad 16 i)), (0, .ref (ad 0 0)), (1, .int (nI i)), (2, .int (nI w))]) hx hb dX6_reason_5 rfl hl (by decide) rfl (fun ls hl => ?_)
      refine lv_aload_n hx hb dX6_reason_6 rfl (lv_at hl 1 rfl) ?_
      refine lv_aload_n hx hb dX6_reason_7 rfl (lv_at hl 0 rfl) ?_
      refine lv_aload_n hx hb dX6_reason_8 rfl (lv_at hl 1 rfl) ?_
      refine lv_iload_n hx hb dX6_reason_9 rfl (lv_at hl 3 rfl) ?_
      refine xc_v (n := 1) (As := [.int (nI w)]) (rest := [.ref (ad 16 i), .ref (ad 0 0)]) (v := [.ref (ad 18 w)]) ⟨hx, hb, hml, hown, hts⟩ hE hX ht hlocks (fun q => absurd (show eV σ (nI w) = 0 from if_pos kv9) q) (qX6_vatNumbered la hst g lo ad σ u τ hI (nI w)) gX6_reason_X6_vatNumbered rfl rfl rfl (by decide +kernel) ⟨Nat.le_of_ble_eq_true rfl, Nat.le_of_ble_eq_true rfl⟩ rfl hl.1 rfl (Nat.le_of_ble_eq_true rfl) dX6_reason_10 ⟨Nat.le_of_ble_eq_true rfl, Nat.le_of_ble_eq_true rfl⟩ ⟨Nat.le_of_ble_eq_true rfl, Nat.le_of_ble_eq_true rfl⟩ (fun _ => congrArg (fun z => [Value.ref (ad 18 z)]) (ti_nI (by omega))) (fun h_2 => ?_)
      refine xc_ro (n := 2) (K := 0) (i := 0) (As := [.ref (ad 16 i), .ref (ad 18 w)]) (rest := []) (v := [.int (f_why σ (nI i) (nI w))]) ⟨hx, hb, hml, hown, hts⟩ hK hX (show 0 < 1 from Nat.zero_lt_one) rfl rfl (qX6_reasonAgainst la g ad σ u τ hI i hi w hw) gX6_reason_X6_reasonAgainst rfl rfl rfl (by decide +kernel) ⟨Nat.le_of_ble_eq_true rfl, Nat.le_of_ble_eq_true rfl⟩ rfl hl.1 rfl (Nat.le_of_ble_eq_true rfl) dX6_reason_13 ⟨Nat.le_of_ble_eq_true rfl, Nat.le_of_ble_eq_true rfl⟩ rfl ?_
      refine vx_ret ?_
      refine W.widen (k := 2) (n := 12) (Nat.le_of_ble_eq_true rfl) (Nat.le_of_ble_eq_true rfl) ?_
      exact W.zret (v := (f_why σ (nI i) (nI w))) hx hb hr (narW (f_why_char _ _ _)) (fun t ht9 hW => ⟨(show (exOf 1 0 0 (tLV σ (nI i) (nI w))) = 0 from by rw [show (tLV σ (nI i) (nI w)) = 0 from (by simp only [tD, tL, tV, tO, tW, tLV, tN, t_needs, t_plannedAt, t_shadeOf, t_dist, t_near, t_cell, t_byLight, t_dues, t_share, t_mean, okW, eti, etw]; (repeat' split) <;> first | rfl | contradiction | (exfalso; simp_all [-Int32.not_lt, -Int32.not_le]; done))]; rfl), congrArg (fun z => Outcome.returned (some (Value.int z))) (by first | rfl | (simp [-Int32.not_lt, -Int32.not_le, okL, okV, okO, okR, okD, isP, shP, eti, kl9, etw, kv9, h_1, h_2]; done) | (simp_all [-Int32.not_lt, -Int32.not_le, okL, okV, okO, okR, okD, isP, shP]; done)), ht9⟩) (fun _ h => nomatch h) dX6_reason_16
    · refine lv_aload_n hx hb dX6_reason_0 rfl (lv_at hl 0 rfl) ?_
      refine lv_iload_n hx hb dX6_reason_1 rfl (lv_at hl 1 rfl) ?_
      refine xc_v (n := 1) (As := [.int (nI i)]) (rest := []) (v := [.ref (ad 16 i)]) ⟨hx, hb, hml, hown, hts⟩ hE hX ht hlocks (fun q => absurd (show eL σ (nI i) = 0 from if_pos kl9) q) (qX6_lotNumbered la hst g lo ad σ u τ hI (nI i)) gX6_reason_X6_lotNumbered rfl rfl rfl (by decide +kernel) ⟨Nat.le_of_ble_eq_true rfl, Nat.le_of_ble_eq_true rfl⟩ rfl hl.1 rfl (Nat.le_of_ble_eq_true rfl) dX6_reason_2 ⟨Nat.le_of_ble_eq_true rfl, Nat.le_of_ble_eq_true rfl⟩ ⟨Nat.le_of_ble_eq_true rfl, Nat.le_of_ble_eq_true rfl⟩ (fun _ => congrArg (fun z => [Value.ref (ad 16 z)]) (ti_nI (by omega))) (fun h_4 => ?_)
      refine lv_astore_n (lv' := [(3, .ref (ad 16 i)), (0, .ref (ad 0 0)), (1, .int (nI i)), (2, .int v)]) hx hb dX6_reason_5 rfl hl (by decide) rfl (fun ls hl => ?_)
      refine lv_aload_n hx hb dX6_reason_6 rfl (lv_at hl 1 rfl) ?_
      refine lv_aload_n hx hb dX6_reason_7 rfl (lv_at hl 0 rfl) ?_
      refine lv_aload_n hx hb dX6_reason_8 rfl (lv_at hl 1 rfl) ?_
      refine lv_iload_n hx hb dX6_reason_9 rfl (lv_at hl 3 rfl) ?_
      refine xc_v (n := 1) (As := [.int v]) (rest := [.ref (ad 16 i), .ref (ad 0 0)]) (v := [.ref (ad 18 (ti v))]) ⟨hx, hb, hml, hown, hts⟩ hE hX ht hlocks (fun _ => ((show (exOf 1 0 0 (tLV σ (nI i) v)) = 1 from by rw [show (tLV σ (nI i) v) = 1 from (by simp only [tD, tL, tV, tO, tW, tLV, tN, t_needs, t_plannedAt, t_shadeOf, t_dist, t_near, t_cell, t_byLight, t_dues, t_share, t_mean, okW, eti]; (repeat' split) <;> first | rfl | contradiction | (exfalso; simp_all [-Int32.not_lt, -Int32.not_le]; done))]; rfl)).trans (show eV σ v = 1 from if_neg kv9).symm) (qX6_vatNumbered la hst g lo ad σ u τ hI v) gX6_reason_X6_vatNumbered rfl rfl rfl (by decide +kernel) ⟨Nat.le_of_ble_eq_true rfl, Nat.le_of_ble_eq_true rfl⟩ rfl hl.1 rfl (Nat.le_of_ble_eq_true rfl) dX6_reason_10 ⟨Nat.le_of_ble_eq_true rfl, Nat.le_of_ble_eq_true rfl⟩ ⟨Nat.le_of_ble_eq_true rfl, Nat.le_of_ble_eq_true rfl⟩ (fun _ => rfl) (fun h_5 => ?_)
      exact absurd h_5 (by rw [show eV σ v = 1 from if_neg kv9]; decide)
  · refine lv_aload_n hx hb dX6_reason_0 rfl (lv_at hl 0 rfl) ?_
    refine lv_iload_n hx hb dX6_reason_1 rfl (lv_at hl 1 rfl) ?_
    refine xc_v (n := 1) (As := [.int l]) (rest := []) (v := [.ref (ad 16 (ti l))]) ⟨hx, hb, hml, hown, hts⟩ hE hX ht hlocks (fun _ => ((show (exOf 1 0 0 (tLV σ l v)) = 1 from by rw [show (tLV σ l v) = 1 from (by simp only [tD, tL, tV, tO, tW, tLV, tN, t_needs, t_plannedAt, t_shadeOf, t_dist, t_near, t_cell, t_byLight, t_dues, t_share, t_mean, okW]; (repeat' split) <;> first | rfl | contradiction | (exfalso; simp_all [-Int32.not_lt, -Int32.not_le]; done))]; rfl)).trans (show eL σ l = 1 from if_neg kl9).symm) (qX6_lotNumbered la hst g lo ad σ u τ hI l) gX6_reason_X6_lotNumbered rfl rfl rfl (by decide +kernel) ⟨Nat.le_of_ble_eq_true rfl, Nat.le_of_ble_eq_true rfl⟩ rfl hl.1 rfl (Nat.le_of_ble_eq_true rfl) dX6_reason_2 ⟨Nat.le_of_ble_eq_true rfl, Nat.le_of_ble_eq_true rfl⟩ ⟨Nat.le_of_ble_eq_true rfl, Nat.le_of_ble_eq_true rfl⟩ (fun _ => rfl) (fun h_7 => ?_)
    exact absurd h_7 (by rw [show eL σ l = 1 from if_neg kl9]; decide)
set_option maxHeartbeats 4000000 in
set_option maxRecDepth 100000 in
theorem qX6_verdict (la : Launch) (hst : la.stackTraces = false) (g : EG) (lo : Nat) (ad : Nat → Nat → Nat) (σ : Sg) (u : Nat → Int64) (τ : Sg) (hI : INV σ) (hA : XA lo ad σ) (l : Int32) : vx_Met la yX6_verdict wsX6_verdict ({ frames := 8, cells := 2, slots := 12, locals := 144 } : Room) (va_Pc [.ref (ad 0 0), .int l] (fun U => XR g ad σ u τ U.heap ∧ EV g lo U)) (QX (exOf 1 3 0 (tN σ l 100)) (.returned (some (.int (f_judged σ l))))) (XX (exOf 1 3 0 (tN σ l 100))) 2 12 (fun _ => False) := by
  refine vx_ofW (cc := cX6_verdict) (maxL := 2) (ret := (some .char)) (by decide) rfl ?_
  intro p e s m args below meth c s₁ B hml ht hv
  obtain ⟨rfl, hX, hE⟩ := hv
  have hK := hE.1
  have hx := B.exec
  have hb := B.bytes
  have hr := B.returns
  have hts := atoms_spec (ws := wsX6_verdict) B.pre
  have hown : s.vm.findClass RX6 = some m.cls := findClass_of_methodNamed B.named
  have hlocks := B.notSynchronized
  have hl := lv_entry ([.ref (ad 0 0), .int l]) (n := 2) (Nat.le_of_ble_eq_true rfl)
  rw [lg_entry_eq]
  generalize (lg_sl ([.ref (ad 0 0), .int l]) ++ List.replicate (2 - (lg_sl ([.ref (ad 0 0), .int l])).length) Slot.unset).toArray = ls at hl ⊢
  have hl : lv_has ls 2 [(0, .ref (ad 0 0)), (1, .int l)] := hl
  have hbL := hI.l.1
  have hbO := hI.o.1
  have hbV := hI.v.1
  by_cases kl9 : okL σ l
  · obtain ⟨i, hi, rfl⟩ := vp_in_of ((okL_in hI l).mp kl9) (Nat.lt_of_le_of_lt hI.l.1 (by decide))
    have hbi : nL σ ≤ _ := hI.l.1
    have eti : ti (nI i) = i := ti_nI (by omega)
    refine lv_aload_n hx hb dX6_verdict_0 rfl (lv_at hl 0 rfl) ?_
    refine lv_aload_n hx hb dX6_verdict_1 rfl (lv_at hl 0 rfl) ?_
    refine lv_iload_n hx hb dX6_verdict_2 rfl (lv_at hl 1 rfl) ?_
    refine xc_v (n := 1) (As := [.int (nI i)]) (rest := [.ref (ad 0 0)]) (v := [.ref (ad 16 i)]) ⟨hx, hb, hml, hown, hts⟩ hE hX ht hlocks (fun q => by have h9 : ¬ (σ 21 i = 100) := fun z => q (by unfold eDy; rw [ti_nI (by omega), if_pos kl9]; exact if_pos z); exact (show (exOf 1 3 0 (tN σ (nI i) 100)) = 3 from by rw [show (tN σ (nI i) 100) = 2 from (by simp only [tD, tL, tV, tO, tW, tLV, tN, t_needs, t_plannedAt, t_shadeOf, t_dist, t_near, t_cell, t_byLight, t_dues, t_share, t_mean, okW, eti]; (repeat' split) <;> first | rfl | contradiction | (exfalso; simp_all [-Int32.not_lt, -Int32.not_le]; done))]; rfl).trans (show eDy σ (nI i) = 3 from by unfold eDy; rw [ti_nI (by omega), if_pos kl9]; exact if_neg h9).symm) (qX6_dyedLotNumbered la hst g lo ad σ u τ hI (nI i)) gX6_verdict_X6_dyedLotNumbered rfl rfl rfl (by decide +kernel) ⟨Nat.le_of_ble_eq_true rfl, Nat.le_of_ble_eq_true rfl⟩ rfl hl.1 rfl (Nat.le_of_ble_eq_true rfl) dX6_verdict_3 ⟨Nat.le_of_ble_eq_true rfl, Nat.le_of_ble_eq_true rfl⟩ ⟨Nat.le_of_ble_eq_true rfl, Nat.le_of_ble_eq_true rfl⟩ (fun _ => congrArg (fun z => [Value.ref (ad 16 z)]) (ti_nI (by omega))) (fun h_1 => ?_)
    have hsi : σ 21 i = 100 := eDy0 hI hi h_1
    refine xc_ro (n := 1) (K := 0) (i := 0) (As := [.ref (ad 16 i)]) (rest := []) (v := [.int (f_judged σ (nI i))]) ⟨hx, hb, hml, hown, hts⟩ hK hX (show 0 < 1 from Nat.zero_lt_one) rfl rfl (qX6_verdictOn la g ad σ u τ hI lo hA i hi) gX6_verdict_X6_verdictOn rfl rfl rfl (by decide +kernel) ⟨Nat.le_of_ble_eq_true rfl, Nat.le_of_ble_eq_true rfl⟩ rfl hl.1 rfl (Nat.le_of_ble_eq_true rfl) dX6_verdict_6 ⟨Nat.le_of_ble_eq_true rfl, Nat.le_of_ble_eq_true rfl⟩ rfl ?_
    refine vx_ret ?_
    refine W.widen (k := 2) (n := 12) (Nat.le_of_ble_eq_true rfl) (Nat.le_of_ble_eq_true rfl) ?_
    exact W.zret (v := (f_judged σ (nI i))) hx hb hr (narW (f_judged_char _ _)) (fun t ht9 hW => ⟨(show (exOf 1 3 0 (tN σ (nI i) 100)) = 0 from by rw [show (tN σ (nI i) 100) = 0 from (by simp only [tD, tL, tV, tO, tW, tLV, tN, t_needs, t_plannedAt, t_shadeOf, t_dist, t_near, t_cell, t_byLight, t_dues, t_share, t_mean, okW, eti]; (repeat' split) <;> first | rfl | contradiction | (exfalso; simp_all [-Int32.not_lt, -Int32.not_le]; done))]; rfl), congrArg (fun z => Outcome.returned (some (Value.int z))) (by first | rfl | (simp [-Int32.not_lt, -Int32.not_le, okL, okV, okO, okR, okD, isP, shP, eti, kl9, hsi, h_1]; done) | (simp_all [-Int32.not_lt, -Int32.not_le, okL, okV, okO, okR, okD, isP, shP]; done)), ht9⟩) (fun _ h => nomatch h) dX6_verdict_9
  · refine lv_aload_n hx hb dX6_verdict_0 rfl (lv_at hl 0 rfl) ?_
    refine lv_aload_n hx hb dX6_verdict_1 rfl (lv_at hl 0 rfl) ?_
    refine lv_iload_n hx hb dX6_verdict_2 rfl (lv_at hl 1 rfl) ?_
    refine xc_v (n := 1) (As := [.int l]) (rest := [.ref (ad 0 0)]) (v := [.ref (ad 16 (ti l))]) ⟨hx, hb, hml, hown, hts⟩ hE hX ht hlocks (fun _ => ((show (exOf 1 3 0 (tN σ l 100)) = 1 from by rw [show (tN σ l 100) = 1 from (by simp only [tD, tL, tV, tO, tW, tLV, tN, t_needs, t_plannedAt, t_shadeOf, t_dist, t_near, t_cell, t_byLight, t_dues, t_share, t_mean, okW]; (repeat' split) <;> first | rfl | contradiction | (exfalso; simp_all [-Int32.not_lt, -Int32.not_le]; done))]; rfl)).trans (show eDy σ l = 1 from if_neg kl9).symm) (qX6_dyedLotNumbered la hst g lo ad σ u τ hI l) gX6_verdict_X6_dyedLotNumbered rfl rfl rfl (by decide +kernel) ⟨Nat.le_of_ble_eq_true rfl, Nat.le_of_ble_eq_true rfl⟩ rfl hl.1 rfl (Nat.le_of_ble_eq_true rfl) dX6_verdict_3 ⟨Nat.le_of_ble_eq_true rfl, Nat.le_of_ble_eq_true rfl⟩ ⟨Nat.le_of_ble_eq_true rfl, Nat.le_of_ble_eq_true rfl⟩ (fun _ => rfl) (fun h_3 => ?_)
    exact absurd h_3 (by rw [show eDy σ l = 1 from if_neg kl9]; decide)
set_option maxHeartbeats 4000000 in
set_option maxRecDepth 100000 in
theorem qX6_planned (la : Launch) (hst : la.stackTraces = false) (g : EG) (lo : Nat) (ad : Nat → Nat → Nat) (σ : Sg) (u : Nat → Int64) (τ : Sg) (hI : INV σ) (hA : XA lo ad σ) (v : Int32) : vx_Met la yX6_planned wsX6_planned ({ frames := 7, cells := 1, slots := 6, locals := 122 } : Room) (va_Pc [.ref (ad 0 0), .int v] (fun U => XR g ad σ u τ U.heap ∧ EV g lo U)) (QX (exOf 1 0 0 (tV σ v)) (.returned (some (.int (f_inPlan σ v))))) (XX (exOf 1 0 0 (tV σ v))) 1 6 (fun _ => False) := by
  refine vx_ofW (cc := cX6_planned) (maxL := 2) (ret := (some .int)) (by decide) rfl ?_
  intro p e s m args below meth c s₁ B hml ht hv
  obtain ⟨rfl, hX, hE⟩ := hv
  have hK := hE.1
  have hx := B.exec
  have hb := B.bytes
  have hr := B.returns
  have hts := atoms_spec (ws := wsX6_planned) B.pre
  have hown : s.vm.findClass RX6 = some m.cls := findClass_of_methodNamed B.named
  have hlocks := B.notSynchronized
  have hl := lv_entry ([.ref (ad 0 0), .int v]) (n := 2) (Nat.le_of_ble_eq_true rfl)
  rw [lg_entry_eq]
  generalize (lg_sl ([.ref (ad 0 0), .int v]) ++ List.replicate (2 - (lg_sl ([.ref (ad 0 0), .int v])).length) Slot.unset).toArray = ls at hl ⊢
  have hl : lv_has ls 2 [(0, .ref (ad 0 0)), (1, .int v)] := hl
  have hbL := hI.l.1
  have hbO := hI.o.1
  have hbV := hI.v.1
  by_cases kv9 : okV σ v
  · obtain ⟨w, hw, rfl⟩ := vp_in_of ((okV_in hI v).mp kv9) (Nat.lt_of_le_of_lt hI.v.1 (by decide))
    have hbw : nV σ ≤ _ := hI.v.1
    have etw : ti (nI w) = w := ti_nI (by omega)
    refine lv_aload_n hx hb dX6_planned_0 rfl (lv_at hl 0 rfl) ?_
    refine lv_aload_n hx hb dX6_planned_1 rfl (lv_at hl 0 rfl) ?_
    refine lv_iload_n hx hb dX6_planned_2 rfl (lv_at hl 1 rfl) ?_
    refine xc_v (n := 1) (As := [.int (nI w)]) (rest := [.ref (ad 0 0)]) (v := [.ref (ad 18 w)]) ⟨hx, hb, hml, hown, hts⟩ hE hX ht hlocks (fun q => absurd (show eV σ (nI w) = 0 from if_pos kv9) q) (qX6_vatNumbered la hst g lo ad σ u τ hI (nI w)) gX6_planned_X6_vatNumbered rfl rfl rfl (by decide +kernel) ⟨Nat.le_of_ble_eq_true rfl, Nat.le_of_ble_eq_true rfl⟩ rfl hl.1 rfl (Nat.le_of_ble_eq_true rfl) dX6_planned_3 ⟨Nat.le_of_ble_eq_true rfl, Nat.le_of_ble_eq_true rfl⟩ ⟨Nat.le_of_ble_eq_true rfl, Nat.le_of_ble_eq_true rfl⟩ (fun _ => congrArg (fun z => [Value.ref (ad 18 z)]) (ti_nI (by omega))) (fun h_1 => ?_)
    refine xc_ro (n := 1) (K := 0) (i := 0) (As := [.ref (ad 18 w)]) (rest := []) (v := [.int (f_inPlan σ (nI w))]) ⟨hx, hb, hml, hown, hts⟩ hK hX (show 0 < 1 from Nat.zero_lt_one) rfl rfl (qX6_plannedLots la g ad σ u τ hI lo hA w hw) gX6_planned_X6_plannedLots rfl rfl rfl (by decide +kernel) ⟨Nat.le_of_ble_eq_true rfl, Nat.le_of_ble_eq_true rfl⟩ rfl hl.1 rfl (Nat.le_of_ble_eq_true rfl) dX6_planned_6 ⟨Nat.le_of_ble_eq_true rfl, Nat.le_of_ble_eq_true rfl⟩ rfl ?_
    refine vx_ret ?_
    refine W.widen (k := 1) (n := 6) (Nat.le_of_ble_eq_true rfl) (Nat.le_of_ble_eq_true rfl) ?_
    exact W.iret (v := (f_inPlan σ (nI w))) hx hb hr (fun t ht9 hW => ⟨(show (exOf 1 0 0 (tV σ (nI w))) = 0 from by rw [show (tV σ (nI w)) = 0 from (by simp only [tD, tL, tV, tO, tW, tLV, tN, t_needs, t_plannedAt, t_shadeOf, t_dist, t_near, t_cell, t_byLight, t_dues, t_share, t_mean, okW, etw]; (repeat' split) <;> first | rfl | contradiction | (exfalso; simp_all [-Int32.not_lt, -Int32.not_le]; done))]; rfl), congrArg (fun z => Outcome.returned (some (Value.int z))) (by first | rfl | (simp [-Int32.not_lt, -Int32.not_le, okL, okV, okO, okR, okD, isP, shP, etw, kv9, h_1]; done) | (simp_all [-Int32.not_lt, -Int32.not_le, okL, okV, okO, okR, okD, isP, shP]; done)), ht9⟩) (fun _ h => nomatch h) dX6_planned_9
  · refine lv_aload_n hx hb dX6_planned_0 rfl (lv_at hl 0 rfl) ?_
    refine lv_aload_n hx hb dX6_planned_1 rfl (lv_at hl 0 rfl) ?_
    refine lv_iload_n hx hb dX6_planned_2 rfl (lv_at hl 1 rfl) ?_
    refine xc_v (n := 1) (As := [.int v]) (rest := [.ref (ad 0 0)]) (v := [.ref (ad 18 (ti v))]) ⟨hx, hb, hml, hown, hts⟩ hE hX ht hlocks (fun _ => ((show (exOf 1 0 0 (tV σ v)) = 1 from by rw [show (tV σ v) = 1 from (by simp only [tD, tL, tV, tO, tW, tLV, tN, t_needs, t_plannedAt, t_shadeOf, t_dist, t_near, t_cell, t_byLight, t_dues, t_share, t_mean, okW]; (repeat' split) <;> first | rfl | contradiction | (exfalso; simp_all [-Int32.not_lt, -Int32.not_le]; done))]; rfl)).trans (show eV σ v = 1 from if_neg kv9).symm) (qX6_vatNumbered la hst g lo ad σ u τ hI v) gX6_planned_X6_vatNumbered rfl rfl rfl (by decide +kernel) ⟨Nat.le_of_ble_eq_true rfl, Nat.le_of_ble_eq_true rfl⟩ rfl hl.1 rfl (Nat.le_of_ble_eq_true rfl) dX6_planned_3 ⟨Nat.le_of_ble_eq_true rfl, Nat.le_of_ble_eq_true rfl⟩ ⟨Nat.le_of_ble_eq_true rfl, Nat.le_of_ble_eq_true rfl⟩ (fun _ => rfl) (fun h_3 => ?_)
    exact absurd h_3 (by rw [show eV σ v = 1 from if_neg kv9]; decide)
set_option maxHeartbeats 4000000 in
set_option maxRecDepth 100000 in
theorem qX6_stateOf (la : Launch) (hst : la.stackTraces = false) (g : EG) (lo : Nat) (ad : Nat → Nat → Nat) (σ : Sg) (u : Nat → Int64) (τ : Sg) (hI : INV σ) (hA : XA lo ad σ) (l : Int32) : vx_Met la yX6_stateOf wsX6_stateOf ({ frames := 7, cells := 1, slots := 6, locals := 122 } : Room) (va_Pc [.ref (ad 0 0), .int l] (fun U => XR g ad σ u τ U.heap ∧ EV g lo U)) (QX (exOf 1 0 0 (tL σ l)) (.returned (some (.int (σ 21 (ti l)))))) (XX (exOf 1 0 0 (tL σ l))) 1 6 (fun _ => False) := by
  refine vx_ofW (cc := cX6_stateOf) (maxL := 2) (ret := (some .char)) (by decide) rfl ?_
  intro p e s m args below meth c s₁ B hml ht hv
  obtain ⟨rfl, hX, hE⟩ := hv
  have hK := hE.1
  have hx := B.exec
  have hb := B.bytes
  have hr := B.returns
  have hts := atoms_spec (ws := wsX6_stateOf) B.pre
  have hown : s.vm.findClass RX6 = some m.cls := findClass_of_methodNamed B.named
  have hlocks := B.notSynchronized
  have hinX0 : ∀ w ∈ wsX00, w ∈ wsX6_stateOf := by decide +kernel
  have lk147 := hts (.fieldLink RX6 147 "DyehouseLedger$Lot" "state" "C") (by decide +kernel)
  have hl := lv_entry ([.ref (ad 0 0), .int l]) (n := 2) (Nat.le_of_ble_eq_true rfl)
  rw [lg_entry_eq]
  generalize (lg_sl ([.ref (ad 0 0), .int l]) ++ List.replicate (2 - (lg_sl ([.ref (ad 0 0), .int l])).length) Slot.unset).toArray = ls at hl ⊢
  have hl : lv_has ls 2 [(0, .ref (ad 0 0)), (1, .int l)] := hl
  have hbL := hI.l.1
  have hbO := hI.o.1
  have hbV := hI.v.1
  by_cases kl9 : okL σ l
  · obtain ⟨i, hi, rfl⟩ := vp_in_of ((okL_in hI l).mp kl9) (Nat.lt_of_le_of_lt hI.l.1 (by decide))
    have hbi : nL σ ≤ _ := hI.l.1
    have eti : ti (nI i) = i := ti_nI (by omega)
    refine lv_aload_n hx hb dX6_stateOf_0 rfl (lv_at hl 0 rfl) ?_
    refine lv_iload_n hx hb dX6_stateOf_1 rfl (lv_at hl 1 rfl) ?_
    refine xc_v (n := 1) (As := [.int (nI i)]) (rest := []) (v := [.ref (ad 16 i)]) ⟨hx, hb, hml, hown, hts⟩ hE hX ht hlocks (fun q => absurd (show eL σ (nI i) = 0 from if_pos kl9) q) (qX6_lotNumbered la hst g lo ad σ u τ hI (nI i)) gX6_stateOf_X6_lotNumbered rfl rfl rfl (by decide +kernel) ⟨Nat.le_of_ble_eq_true rfl, Nat.le_of_ble_eq_true rfl⟩ rfl hl.1 rfl (Nat.le_of_ble_eq_true rfl) dX6_stateOf_2 ⟨Nat.le_of_ble_eq_true rfl, Nat.le_of_ble_eq_true rfl⟩ ⟨Nat.le_of_ble_eq_true rfl, Nat.le_of_ble_eq_true rfl⟩ (fun _ => congrArg (fun z => [Value.ref (ad 16 z)]) (ti_nI (by omega))) (fun h_1 => ?_)
    refine x_get (K := 16) (i := i) (v := .int (σ 21 i)) hx hb hts hinX0 hown hK hX hi 4 rfl rfl (by decide) rfl lk147 rfl dX6_stateOf_5 ?_
    refine vx_ret ?_
    refine W.widen (k := 1) (n := 6) (Nat.le_of_ble_eq_true rfl) (Nat.le_of_ble_eq_true rfl) ?_
    exact W.zret (v := (σ 21 i)) hx hb hr (by rcases hI.2.2.2.2.1 _ hi with h | h | h | h <;> rw [h] <;> rfl) (fun t ht9 hW => ⟨(show (exOf 1 0 0 (tL σ (nI i))) = 0 from by rw [show (tL σ (nI i)) = 0 from (by simp only [tD, tL, tV, tO, tW, tLV, tN, t_needs, t_plannedAt, t_shadeOf, t_dist, t_near, t_cell, t_byLight, t_dues, t_share, t_mean, okW, eti]; (repeat' split) <;> first | rfl | contradiction | (exfalso; simp_all [-Int32.not_lt, -Int32.not_le]; done))]; rfl), congrArg (fun z => Outcome.returned (some (Value.int z))) (by first | rfl | (simp [-Int32.not_lt, -Int32.not_le, okL, okV, okO, okR, okD, isP, shP, eti, kl9, h_1]; done) | (simp_all [-Int32.not_lt, -Int32.not_le, okL, okV, okO, okR, okD, isP, shP]; done)), ht9⟩) (fun _ h => nomatch h) dX6_stateOf_8
  · refine lv_aload_n hx hb dX6_stateOf_0 rfl (lv_at hl 0 rfl) ?_
    refine lv_iload_n hx hb dX6_stateOf_1 rfl (lv_at hl 1 rfl) ?_
    refine xc_v (n := 1) (As := [.int l]) (rest := []) (v := [.ref (ad 16 (ti l))]) ⟨hx, hb, hml, hown, hts⟩ hE hX ht hlocks (fun _ => ((show (exOf 1 0 0 (tL σ l)) = 1 from by rw [show (tL σ l) = 1 from (by simp only [tD, tL, tV, tO, tW, tLV, tN, t_needs, t_plannedAt, t_shadeOf, t_dist, t_near, t_cell, t_byLight, t_dues, t_share, t_mean, okW]; (repeat' split) <;> first | rfl | contradiction | (exfalso; simp_all [-Int32.not_lt, -Int32.not_le]; done))]; rfl)).trans (show eL σ l = 1 from if_neg kl9).symm) (qX6_lotNumbered la hst g lo ad σ u τ hI l) gX6_stateOf_X6_lotNumbered rfl rfl rfl (by decide +kernel) ⟨Nat.le_of_ble_eq_true rfl, Nat.le_of_ble_eq_true rfl⟩ rfl hl.1 rfl (Nat.le_of_ble_eq_true rfl) dX6_stateOf_2 ⟨Nat.le_of_ble_eq_true rfl, Nat.le_of_ble_eq_true rfl⟩ ⟨Nat.le_of_ble_eq_true rfl, Nat.le_of_ble_eq_true rfl⟩ (fun _ => rfl) (fun h_3 => ?_)
    exact absurd h_3 (by rw [show eL σ l = 1 from if_neg kl9]; decide)
theorem tw_inX6_vatOf_3 : ∀ w ∈ (vx_at0 RX6 58 (en 3) exN).filter goodWord, w ∈ wsX6_vatOf := by decide +kernel
set_option maxHeartbeats 4000000 in
set_option maxRecDepth 100000 in
theorem qX6_vatOf (la : Launch) (hst : la.stackTraces = false) (g : EG) (lo : Nat) (ad : Nat → Nat → Nat) (σ : Sg) (u : Nat → Int64) (τ : Sg) (hI : INV σ) (hA : XA lo ad σ) (l : Int32) : vx_Met la yX6_vatOf wsX6_vatOf ({ frames := 7, cells := 2, slots := 12, locals := 122 } : Room) (va_Pc [.ref (ad 0 0), .int l] (fun U => XR g ad σ u τ U.heap ∧ EV g lo U)) (QX (exOf 1 3 0 (tW σ l)) (.returned (some (.int (σ 17 (ti l)))))) (XX (exOf 1 3 0 (tW σ l))) 2 12 (fun _ => False) := by
  refine vx_ofW (cc := cX6_vatOf) (maxL := 3) (ret := (some .int)) (by decide) rfl ?_
  intro p e s m args below meth c s₁ B hml ht hv
  obtain ⟨rfl, hX, hE⟩ := hv
  have hK := hE.1
  have hx := B.exec
  have hb := B.bytes
  have hr := B.returns
  have hts := atoms_spec (ws := wsX6_vatOf) B.pre
  have hown : s.vm.findClass RX6 = some m.cls := findClass_of_methodNamed B.named
  have hlocks := B.notSynchronized
  have hinX0 : ∀ w ∈ wsX00, w ∈ wsX6_vatOf := by decide +kernel
  have hinX5 : ∀ w ∈ wsX50, w ∈ wsX6_vatOf := by decide +kernel
  have lk151 := hts (.fieldLink RX6 151 "DyehouseLedger$Lot" "vat" "LDyehouseLedger$Vat;") (by decide +kernel)
  have lk194 := hts (.fieldLink RX6 194 "DyehouseLedger$Vat" "number" "I") (by decide +kernel)
  have ti3 := hts (.initialized "java/lang/IllegalStateException") (by decide +kernel)
  have tk3 := hts (.classLink RX6 56 "java/lang/IllegalStateException") (by decide +kernel)
  have tw3 : ∀ w ∈ (vx_at0 RX6 58 (en 3) exN).filter goodWord, w.before _ s = true := fun w h => hts w (tw_inX6_vatOf_3 w h)
  have hl := lv_entry ([.ref (ad 0 0), .int l]) (n := 3) (Nat.le_of_ble_eq_true rfl)
  rw [lg_entry_eq]
  generalize (lg_sl ([.ref (ad 0 0), .int l]) ++ List.replicate (3 - (lg_sl ([.ref (ad 0 0), .int l])).length) Slot.unset).toArray = ls at hl ⊢
  have hl : lv_has ls 3 [(0, .ref (ad 0 0)), (1, .int l)] := hl
  have hbL := hI.l.1
  have hbO := hI.o.1
  have hbV := hI.v.1
  by_cases kl9 : okL σ l
  · obtain ⟨i, hi, rfl⟩ := vp_in_of ((okL_in hI l).mp kl9) (Nat.lt_of_le_of_lt hI.l.1 (by decide))
    have hbi : nL σ ≤ _ := hI.l.1
    have eti : ti (nI i) = i := ti_nI (by omega)
    refine lv_aload_n hx hb dX6_vatOf_0 rfl (lv_at hl 0 rfl) ?_
    refine lv_iload_n hx hb dX6_vatOf_1 rfl (lv_at hl 1 rfl) ?_
    refine xc_v (n := 1) (As := [.int (nI i)]) (rest := []) (v := [.ref (ad 16 i)]) ⟨hx, hb, hml, hown, hts⟩ hE hX ht hlocks (fun q => absurd (show eL σ (nI i) = 0 from if_pos kl9) q) (qX6_lotNumbered la hst g lo ad σ u τ hI (nI i)) gX6_vatOf_X6_lotNumbered rfl rfl rfl (by decide +kernel) ⟨Nat.le_of_ble_eq_true rfl, Nat.le_of_ble_eq_true rfl⟩ rfl hl.1 rfl (Nat.le_of_ble_eq_true rfl) dX6_vatOf_2 ⟨Nat.le_of_ble_eq_true rfl, Nat.le_of_ble_eq_true rfl⟩ ⟨Nat.le_of_ble_eq_true rfl, Nat.le_of_ble_eq_true rfl⟩ (fun _ => congrArg (fun z => [Value.ref (ad 16 z)]) (ti_nI (by omega))) (fun h_1 => ?_)
    by_cases z_2 : σ 21 i = 119
    · refine x_get (K := 16) (i := i) (v := .null) hx hb hts hinX0 hown hK hX hi 5 rfl rfl (by decide) rfl lk151 (congrArg some (opt_no z_2)) dX6_vatOf_5 ?_
      refine lv_astore_nN (lv' := [(2, .null), (0, .ref (ad 0 0)), (1, .int (nI i))]) hx hb dX6_vatOf_8 rfl hl (by decide) rfl (fun ls hl => ?_)
      refine lv_aload_nN hx hb dX6_vatOf_9 rfl (lv_at hl 0 rfl) ?_
      refine lv_ifnonnullN hx hb dX6_vatOf_10 ?_
      exact x_throw (k9 := 3) (ic := 58) hx hb hst hown hE ht hlocks (hl.1.trans hml.symm) (fun _ _ _ => trivial) (by decide) tk3 ti3 tw3 bad3 good3 (by decide) (show (exOf 1 3 0 (tW σ (nI i))) = 3 from by rw [show (tW σ (nI i)) = 2 from (by simp only [tD, tL, tV, tO, tW, tLV, tN, t_needs, t_plannedAt, t_shadeOf, t_dist, t_near, t_cell, t_byLight, t_dues, t_share, t_mean, okW, eti]; (repeat' split) <;> first | rfl | contradiction | (exfalso; simp_all [-Int32.not_lt, -Int32.not_le]; done))]; rfl) dX6_vatOf_13 dX6_vatOf_16 dX6_vatOf_17 dX6_vatOf_20 (Nat.le_of_ble_eq_true rfl) (Nat.le_of_ble_eq_true rfl) (Nat.le_of_ble_eq_true rfl) (Nat.le_of_ble_eq_true rfl) (Nat.le_of_ble_eq_true rfl) (Nat.le_of_ble_eq_true rfl)
    · refine x_get (K := 16) (i := i) (v := .ref (ad 18 (ti (σ 17 i)))) hx hb hts hinX0 hown hK hX hi 5 rfl rfl (by decide) rfl lk151 (congrArg some (opt_in z_2)) dX6_vatOf_5 ?_
      refine lv_astore_n (lv' := [(2, .ref (ad 18 (ti (σ 17 i)))), (0, .ref (ad 0 0)), (1, .int (nI i))]) hx hb dX6_vatOf_8 rfl hl (by decide) rfl (fun ls hl => ?_)
      refine lv_aload_n hx hb dX6_vatOf_9 rfl (lv_at hl 0 rfl) ?_
      refine lv_ifnonnull (tgt := 21) hx hb dX6_vatOf_10 (by decide) ?_
      refine lv_aload_n hx hb dX6_vatOf_21 rfl (lv_at hl 0 rfl) ?_
      refine x_get (K := 18) (i := (ti (σ 17 i))) (v := .int (nI (ti (σ 17 i)))) hx hb hts hinX5 hown hK hX (vin_lt (hI.2.2.2.2.2.1 _ hi z_2)) 0 rfl rfl (by decide) rfl lk194 rfl dX6_vatOf_22 ?_
      refine vx_ret ?_
      refine W.widen (k := 2) (n := 12) (Nat.le_of_ble_eq_true rfl) (Nat.le_of_ble_eq_true rfl) ?_
      exact W.iret (v := (nI (ti (σ 17 i)))) hx hb hr (fun t ht9 hW => ⟨(show (exOf 1 3 0 (tW σ (nI i))) = 0 from by rw [show (tW σ (nI i)) = 0 from (by simp only [tD, tL, tV, tO, tW, tLV, tN, t_needs, t_plannedAt, t_shadeOf, t_dist, t_near, t_cell, t_byLight, t_dues, t_share, t_mean, okW, eti]; (repeat' split) <;> first | rfl | contradiction | (exfalso; simp_all [-Int32.not_lt, -Int32.not_le]; done))]; rfl), congrArg (fun z => Outcome.returned (some (Value.int z))) (by rw [eti]; exact nI_ti (vin_mono (hI.2.2.2.2.2.1 _ hi (by assumption)) hI.v.1) (by decide)), ht9⟩) (fun _ h => nomatch h) dX6_vatOf_25
  · refine lv_aload_n hx hb dX6_vatOf_0 rfl (lv_at hl 0 rfl) ?_
    refine lv_iload_n hx hb dX6_vatOf_1 rfl (lv_at hl 1 rfl) ?_
    refine xc_v (n := 1) (As := [.int l]) (rest := []) (v := [.ref (ad 16 (ti l))]) ⟨hx, hb, hml, hown, hts⟩ hE hX ht hlocks (fun _ => ((show (exOf 1 3 0 (tW σ l)) = 1 from by rw [show (tW σ l) = 1 from (by simp only [tD, tL, tV, tO, tW, tLV, tN, t_needs, t_plannedAt, t_shadeOf, t_dist, t_near, t_cell, t_byLight, t_dues, t_share, t_mean, okW]; (repeat' split) <;> first | rfl | contradiction | (exfalso; simp_all [-Int32.not_lt, -Int32.not_le]; done))]; rfl)).trans (show eL σ l = 1 from if_neg kl9).symm) (qX6_lotNumbered la hst g lo ad σ u τ hI l) gX6_vatOf_X6_lotNumbered rfl rfl rfl (by decide +kernel) ⟨Nat.le_of_ble_eq_true rfl, Nat.le_of_ble_eq_true rfl⟩ rfl hl.1 rfl (Nat.le_of_ble_eq_true rfl) dX6_vatOf_2 ⟨Nat.le_of_ble_eq_true rfl, Nat.le_of_ble_eq_true rfl⟩ ⟨Nat.le_of_ble_eq_true rfl, Nat.le_of_ble_eq_true rfl⟩ (fun _ => rfl) (fun h_4 => ?_)
    exact absurd h_4 (by rw [show eL σ l = 1 from if_neg kl9]; decide)
set_option maxHeartbeats 4000000 in
set_option maxRecDepth 100000 in
theorem qX6_offBy (la : Launch) (hst : la.stackTraces = false) (g : EG) (lo : Nat) (ad : Nat → Nat → Nat) (σ : Sg) (u : Nat → Int64) (τ : Sg) (hI : INV σ) (hA : XA lo ad σ) (l : Int32) : vx_Met la yX6_offBy wsX6_offBy ({ frames := 8, cells := 2, slots := 12, locals := 144 } : Room) (va_Pc [.ref (ad 0 0), .int l] (fun U => XR g ad σ u τ U.heap ∧ EV g lo U)) (QX (exOf 1 3 0 (tW σ l)) (.returned (some (.int (f_off σ l))))) (XX (exOf 1 3 0 (tW σ l))) 2 12 (fun _ => False) := by
  refine vx_ofW (cc := cX6_offBy) (maxL := 2) (ret := (some .int)) (by decide) rfl ?_
  intro p e s m args below meth c s₁ B hml ht hv
  obtain ⟨rfl, hX, hE⟩ := hv
  have hK := hE.1
  have hx := B.exec
  have hb := B.bytes
  have hr := B.returns
  have hts := atoms_spec (ws := wsX6_offBy) B.pre
  have hown : s.vm.findClass RX6 = some m.cls := findClass_of_methodNamed B.named
  have hlocks := B.notSynchronized
  have hl := lv_entry ([.ref (ad 0 0), .int l]) (n := 2) (Nat.le_of_ble_eq_true rfl)
  rw [lg_entry_eq]
  generalize (lg_sl ([.ref (ad 0 0), .int l]) ++ List.replicate (2 - (lg_sl ([.ref (ad 0 0), .int l])).length) Slot.unset).toArray = ls at hl ⊢
  have hl : lv_has ls 2 [(0, .ref (ad 0 0)), (1, .int l)] := hl
  have hbL := hI.l.1
  have hbO := hI.o.1
  have hbV := hI.v.1
  by_cases kl9 : okL σ l
  · obtain ⟨i, hi, rfl⟩ := vp_in_of ((okL_in hI l).mp kl9) (Nat.lt_of_le_of_lt hI.l.1 (by decide))
    have hbi : nL σ ≤ _ := hI.l.1
    have eti : ti (nI i) = i := ti_nI (by omega)
    refine lv_aload_n hx hb dX6_offBy_0 rfl (lv_at hl 0 rfl) ?_
    refine lv_iload_n hx hb dX6_offBy_1 rfl (lv_at hl 1 rfl) ?_
    refine xc_v (n := 1) (As := [.int (nI i)]) (rest := []) (v := [.ref (ad 16 i)]) ⟨hx, hb, hml, hown, hts⟩ hE hX ht hlocks (fun q => by have h9 : ¬ (¬ σ 21 i = 119) := fun z => q (by unfold eSd; rw [ti_nI (by omega), if_pos kl9]; exact if_neg z); exact (show (exOf 1 3 0 (tW σ (nI i))) = 3 from by rw [show (tW σ (nI i)) = 2 from (by simp only [tD, tL, tV, tO, tW, tLV, tN, t_needs, t_plannedAt, t_shadeOf, t_dist, t_near, t_cell, t_byLight, t_dues, t_share, t_mean, okW, eti]; (repeat' split) <;> first | rfl | contradiction | (exfalso; simp_all [-Int32.not_lt, -Int32.not_le]; done))]; rfl).trans (show eSd σ (nI i) = 3 from by unfold eSd; rw [ti_nI (by omega), if_pos kl9]; exact if_pos (Decidable.not_not.mp h9)).symm) (qX6_shadedLotNumbered la hst g lo ad σ u τ hI (nI i)) gX6_offBy_X6_shadedLotNumbered rfl rfl rfl (by decide +kernel) ⟨Nat.le_of_ble_eq_true rfl, Nat.le_of_ble_eq_true rfl⟩ rfl hl.1 rfl (Nat.le_of_ble_eq_true rfl) dX6_offBy_2 ⟨Nat.le_of_ble_eq_true rfl, Nat.le_of_ble_eq_true rfl⟩ ⟨Nat.le_of_ble_eq_true rfl, Nat.le_of_ble_eq_true rfl⟩ (fun _ => congrArg (fun z => [Value.ref (ad 16 z)]) (ti_nI (by omega))) (fun h_1 => ?_)
    have hsi : ¬ σ 21 i = 119 := eSd0 hI hi h_1
    refine xc_ro (n := 0) (K := 16) (i := i) (As := []) (rest := []) (v := [.int (f_off σ (nI i))]) ⟨hx, hb, hml, hown, hts⟩ hK hX hi rfl rfl (qX0_distanceFromRecipe la g ad σ u τ hI i hi) gX6_offBy_X0_distanceFromRecipe rfl rfl rfl (by decide +kernel) ⟨Nat.le_of_ble_eq_true rfl, Nat.le_of_ble_eq_true rfl⟩ rfl hl.1 rfl (Nat.le_of_ble_eq_true rfl) dX6_offBy_5 ⟨Nat.le_of_ble_eq_true rfl, Nat.le_of_ble_eq_true rfl⟩ rfl ?_
    refine vx_ret ?_
    refine W.widen (k := 2) (n := 12) (Nat.le_of_ble_eq_true rfl) (Nat.le_of_ble_eq_true rfl) ?_
    exact W.iret (v := (f_off σ (nI i))) hx hb hr (fun t ht9 hW => ⟨(show (exOf 1 3 0 (tW σ (nI i))) = 0 from by rw [show (tW σ (nI i)) = 0 from (by simp only [tD, tL, tV, tO, tW, tLV, tN, t_needs, t_plannedAt, t_shadeOf, t_dist, t_near, t_cell, t_byLight, t_dues, t_share, t_mean, okW, eti]; (repeat' split) <;> first | rfl | contradiction | (exfalso; simp_all [-Int32.not_lt, -Int32.not_le]; done))]; rfl), congrArg (fun z => Outcome.returned (some (Value.int z))) (by first | rfl | (simp [-Int32.not_lt, -Int32.not_le, okL, okV, okO, okR, okD, isP, shP, eti, kl9, hsi, h_1]; done) | (simp_all [-Int32.not_lt, -Int32.not_le, okL, okV, okO, okR, okD, isP, shP]; done)), ht9⟩) (fun _ h => nomatch h) dX6_offBy_8
  · refine lv_aload_n hx hb dX6_offBy_0 rfl (lv_at hl 0 rfl) ?_
    refine lv_iload_n hx hb dX6_offBy_1 rfl (lv_at hl 1 rfl) ?_
    refine xc_v (n := 1) (As := [.int l]) (rest := []) (v := [.ref (ad 16 (ti l))]) ⟨hx, hb, hml, hown, hts⟩ hE hX ht hlocks (fun _ => ((show (exOf 1 3 0 (tW σ l)) = 1 from by rw [show (tW σ l) = 1 from (by simp only [tD, tL, tV, tO, tW, tLV, tN, t_needs, t_plannedAt, t_shadeOf, t_dist, t_near, t_cell, t_byLight, t_dues, t_share, t_mean, okW]; (repeat' split) <;> first | rfl | contradiction | (exfalso; simp_all [-Int32.not_lt, -Int32.not_le]; done))]; rfl)).trans (show eSd σ l = 1 from if_neg kl9).symm) (qX6_shadedLotNumbered la hst g lo ad σ u τ hI l) gX6_offBy_X6_shadedLotNumbered rfl rfl rfl (by decide +kernel) ⟨Nat.le_of_ble_eq_true rfl, Nat.le_of_ble_eq_true rfl⟩ rfl hl.1 rfl (Nat.le_of_ble_eq_true rfl) dX6_offBy_2 ⟨Nat.le_of_ble_eq_true rfl, Nat.le_of_ble_eq_true rfl⟩ ⟨Nat.le_of_ble_eq_true rfl, Nat.le_of_ble_eq_true rfl⟩ (fun _ => rfl) (fun h_3 => ?_)
    exact absurd h_3 (by rw [show eSd σ l = 1 from if_neg kl9]; decide)
set_option maxHeartbeats 4000000 in
set_option maxRecDepth 100000 in
theorem qX6_clock (la : Launch) (hst : la.stackTraces = false) (g : EG) (lo : Nat) (ad : Nat → Nat → Nat) (σ : Sg) (u : Nat → Int64) (τ : Sg) (hI : INV σ) (hA : XA lo ad σ) (v : Int32) : vx_Met la yX6_clock wsX6_clock ({ frames := 7, cells := 1, slots := 6, locals := 122 } : Room) (va_Pc [.ref (ad 0 0), .int v] (fun U => XR g ad σ u τ U.heap ∧ EV g lo U)) (QX (exOf 1 0 0 (tV σ v)) (.returned (some (.int (σ 25 (ti v)))))) (XX (exOf 1 0 0 (tV σ v))) 1 6 (fun _ => False) := by
  refine vx_ofW (cc := cX6_clock) (maxL := 2) (ret := (some .int)) (by decide) rfl ?_
  intro p e s m args below meth c s₁ B hml ht hv
  obtain ⟨rfl, hX, hE⟩ := hv
  have hK := hE.1
  have hx := B.exec
  have hb := B.bytes
  have hr := B.returns
  have hts := atoms_spec (ws := wsX6_clock) B.pre
  have hown : s.vm.findClass RX6 = some m.cls := findClass_of_methodNamed B.named
  have hlocks := B.notSynchronized
  have hinX5 : ∀ w ∈ wsX50, w ∈ wsX6_clock := by decide +kernel
  have lk137 := hts (.fieldLink RX6 137 "DyehouseLedger$Vat" "clock" "I") (by decide +kernel)
  have hl := lv_entry ([.ref (ad 0 0), .int v]) (n := 2) (Nat.le_of_ble_eq_true rfl)
  rw [lg_entry_eq]
  generalize (lg_sl ([.ref (ad 0 0), .int v]) ++ List.replicate (2 - (lg_sl ([.ref (ad 0 0), .int v])).length) Slot.unset).toArray = ls at hl ⊢
  have hl : lv_has ls 2 [(0, .ref (ad 0 0)), (1, .int v)] := hl
  have hbL := hI.l.1
  have hbO := hI.o.1
  have hbV := hI.v.1
  by_cases kv9 : okV σ v
  · obtain ⟨w, hw, rfl⟩ := vp_in_of ((okV_in hI v).mp kv9) (Nat.lt_of_le_of_lt hI.v.1 (by decide))
    have hbw : nV σ ≤ _ := hI.v.1
    have etw : ti (nI w) = w := ti_nI (by omega)
    refine lv_aload_n hx hb dX6_clock_0 rfl (lv_at hl 0 rfl) ?_
    refine lv_iload_n hx hb dX6_clock_1 rfl (lv_at hl 1 rfl) ?_
    refine xc_v (n := 1) (As := [.int (nI w)]) (rest := []) (v := [.ref (ad 18 w)]) ⟨hx, hb, hml, hown, hts⟩ hE hX ht hlocks (fun q => absurd (show eV σ (nI w) = 0 from if_pos kv9) q) (qX6_vatNumbered la hst g lo ad σ u τ hI (nI w)) gX6_clock_X6_vatNumbered rfl rfl rfl (by decide +kernel) ⟨Nat.le_of_ble_eq_true rfl, Nat.le_of_ble_eq_true rfl⟩ rfl hl.1 rfl (Nat.le_of_ble_eq_true rfl) dX6_clock_2 ⟨Nat.le_of_ble_eq_true rfl, Nat.le_of_ble_eq_true rfl⟩ ⟨Nat.le_of_ble_eq_true rfl, Nat.le_of_ble_eq_true rfl⟩ (fun _ => congrArg (fun z => [Value.ref (ad 18 z)]) (ti_nI (by omega))) (fun h_1 => ?_)
    refine x_get (K := 18) (i := w) (v := .int (σ 25 w)) hx hb hts hinX5 hown hK hX hw 4 rfl rfl (by decide) rfl lk137 rfl dX6_clock_5 ?_
    refine vx_ret ?_
    refine W.widen (k := 1) (n := 6) (Nat.le_of_ble_eq_true rfl) (Nat.le_of_ble_eq_true rfl) ?_
    exact W.iret (v := (σ 25 w)) hx hb hr (fun t ht9 hW => ⟨(show (exOf 1 0 0 (tV σ (nI w))) = 0 from by rw [show (tV σ (nI w)) = 0 from (by simp only [tD, tL, tV, tO, tW, tLV, tN, t_needs, t_plannedAt, t_shadeOf, t_dist, t_near, t_cell, t_byLight, t_dues, t_share, t_mean, okW, etw]; (repeat' split) <;> first | rfl | contradiction | (exfalso; simp_all [-Int32.not_lt, -Int32.not_le]; done))]; rfl), congrArg (fun z => Outcome.returned (some (Value.int z))) (by first | rfl | (simp [-Int32.not_lt, -Int32.not_le, okL, okV, okO, okR, okD, isP, shP, etw, kv9, h_1]; done) | (simp_all [-Int32.not_lt, -Int32.not_le, okL, okV, okO, okR, okD, isP, shP]; done)), ht9⟩) (fun _ h => nomatch h) dX6_clock_8
  · refine lv_aload_n hx hb dX6_clock_0 rfl (lv_at hl 0 rfl) ?_
    refine lv_iload_n hx hb dX6_clock_1 rfl (lv_at hl 1 rfl) ?_
    refine xc_v (n := 1) (As := [.int v]) (rest := []) (v := [.ref (ad 18 (ti v))]) ⟨hx, hb, hml, hown, hts⟩ hE hX ht hlocks (fun _ => ((show (exOf 1 0 0 (tV σ v)) = 1 from by rw [show (tV σ v) = 1 from (by simp only [tD, tL, tV, tO, tW, tLV, tN, t_needs, t_plannedAt, t_shadeOf, t_dist, t_near, t_cell, t_byLight, t_dues, t_share, t_mean, okW]; (repeat' split) <;> first | rfl | contradiction | (exfalso; simp_all [-Int32.not_lt, -Int32.not_le]; done))]; rfl)).trans (show eV σ v = 1 from if_neg kv9).symm) (qX6_vatNumbered la hst g lo ad σ u τ hI v) gX6_clock_X6_vatNumbered rfl rfl rfl (by decide +kernel) ⟨Nat.le_of_ble_eq_true rfl, Nat.le_of_ble_eq_true rfl⟩ rfl hl.1 rfl (Nat.le_of_ble_eq_true rfl) dX6_clock_2 ⟨Nat.le_of_ble_eq_true rfl, Nat.le_of_ble_eq_true rfl⟩ ⟨Nat.le_of_ble_eq_true rfl, Nat.le_of_ble_eq_true rfl⟩ (fun _ => rfl) (fun h_3 => ?_)
    exact absurd h_3 (by rw [show eV σ v = 1 from if_neg kv9]; decide)
set_option maxHeartbeats 4000000 in
set_option maxRecDepth 100000 in
theorem qX6_cleanings (la : Launch) (hst : la.stackTraces = false) (g : EG) (lo : Nat) (ad : Nat → Nat → Nat) (σ : Sg) (u : Nat → Int64) (τ : Sg) (hI : INV σ) (hA : XA lo ad σ) (v : Int32) : vx_Met la yX6_cleanings wsX6_cleanings ({ frames := 7, cells := 1, slots := 6, locals := 122 } : Room) (va_Pc [.ref (ad 0 0), .int v] (fun U => XR g ad σ u τ U.heap ∧ EV g lo U)) (QX (exOf 1 0 0 (tV σ v)) (.returned (some (.int (σ 26 (ti v)))))) (XX (exOf 1 0 0 (tV σ v))) 1 6 (fun _ => False) := by
  refine vx_ofW (cc := cX6_cleanings) (maxL := 2) (ret := (some .int)) (by decide) rfl ?_
  intro p e s m args below meth c s₁ B hml ht hv
  obtain ⟨rfl, hX, hE⟩ := hv
  have hK := hE.1
  have hx := B.exec
  have hb := B.bytes
  have hr := B.returns
  have hts := atoms_spec (ws := wsX6_cleanings) B.pre
  have hown : s.vm.findClass RX6 = some m.cls := findClass_of_methodNamed B.named
  have hlocks := B.notSynchronized
  have hinX5 : ∀ w ∈ wsX50, w ∈ wsX6_cleanings := by decide +kernel
  have lk158 := hts (.fieldLink RX6 158 "DyehouseLedger$Vat" "cleanings" "I") (by decide +kernel)
  have hl := lv_entry ([.ref (ad 0 0), .int v]) (n := 2) (Nat.le_of_ble_eq_true rfl)
  rw [lg_entry_eq]
  generalize (lg_sl ([.ref (ad 0 0), .int v]) ++ List.replicate (2 - (lg_sl ([.ref (ad 0 0), .int v])).length) Slot.unset).toArray = ls at hl ⊢
  have hl : lv_has ls 2 [(0, .ref (ad 0 0)), (1, .int v)] := hl
  have hbL := hI.l.1
  have hbO := hI.o.1
  have hbV := hI.v.1
  by_cases kv9 : okV σ v
  · obtain ⟨w, hw, rfl⟩ := vp_in_of ((okV_in hI v).mp kv9) (Nat.lt_of_le_of_lt hI.v.1 (by decide))
    have hbw : nV σ ≤ _ := hI.v.1
    have etw : ti (nI w) = w := ti_nI (by omega)
    refine lv_aload_n hx hb dX6_cleanings_0 rfl (lv_at hl 0 rfl) ?_
    refine lv_iload_n hx hb dX6_cleanings_1 rfl (lv_at hl 1 rfl) ?_
    refine xc_v (n := 1) (As := [.int (nI w)]) (rest := []) (v := [.ref (ad 18 w)]) ⟨hx, hb, hml, hown, hts⟩ hE hX ht hlocks (fun q => absurd (show eV σ (nI w) = 0 from if_pos kv9) q) (qX6_vatNumbered la hst g lo ad σ u τ hI (nI w)) gX6_cleanings_X6_vatNumbered rfl rfl rfl (by decide +kernel) ⟨Nat.le_of_ble_eq_true rfl, Nat.le_of_ble_eq_true rfl⟩ rfl hl.1 rfl (Nat.le_of_ble_eq_true rfl) dX6_cleanings_2 ⟨Nat.le_of_ble_eq_true rfl, Nat.le_of_ble_eq_true rfl⟩ ⟨Nat.le_of_ble_eq_true rfl, Nat.le_of_ble_eq_true rfl⟩ (fun _ => congrArg (fun z => [Value.ref (ad 18 z)]) (ti_nI (by omega))) (fun h_1 => ?_)
    refine x_get (K := 18) (i := w) (v := .int (σ 26 w)) hx hb hts hinX5 hown hK hX hw 5 rfl rfl (by decide) rfl lk158 rfl dX6_cleanings_5 ?_
    refine vx_ret ?_
    refine W.widen (k := 1) (n := 6) (Nat.le_of_ble_eq_true rfl) (Nat.le_of_ble_eq_true rfl) ?_
    exact W.iret (v := (σ 26 w)) hx hb hr (fun t ht9 hW => ⟨(show (exOf 1 0 0 (tV σ (nI w))) = 0 from by rw [show (tV σ (nI w)) = 0 from (by simp only [tD, tL, tV, tO, tW, tLV, tN, t_needs, t_plannedAt, t_shadeOf, t_dist, t_near, t_cell, t_byLight, t_dues, t_share, t_mean, okW, etw]; (repeat' split) <;> first | rfl | contradiction | (exfalso; simp_all [-Int32.not_lt, -Int32.not_le]; done))]; rfl), congrArg (fun z => Outcome.returned (some (Value.int z))) (by first | rfl | (simp [-Int32.not_lt, -Int32.not_le, okL, okV, okO, okR, okD, isP, shP, etw, kv9, h_1]; done) | (simp_all [-Int32.not_lt, -Int32.not_le, okL, okV, okO, okR, okD, isP, shP]; done)), ht9⟩) (fun _ h => nomatch h) dX6_cleanings_8
  · refine lv_aload_n hx hb dX6_cleanings_0 rfl (lv_at hl 0 rfl) ?_
    refine lv_iload_n hx hb dX6_cleanings_1 rfl (lv_at hl 1 rfl) ?_
    refine xc_v (n := 1) (As := [.int v]) (rest := []) (v := [.ref (ad 18 (ti v))]) ⟨hx, hb, hml, hown, hts⟩ hE hX ht hlocks (fun _ => ((show (exOf 1 0 0 (tV σ v)) = 1 from by rw [show (tV σ v) = 1 from (by simp only [tD, tL, tV, tO, tW, tLV, tN, t_needs, t_plannedAt, t_shadeOf, t_dist, t_near, t_cell, t_byLight, t_dues, t_share, t_mean, okW]; (repeat' split) <;> first | rfl | contradiction | (exfalso; simp_all [-Int32.not_lt, -Int32.not_le]; done))]; rfl)).trans (show eV σ v = 1 from if_neg kv9).symm) (qX6_vatNumbered la hst g lo ad σ u τ hI v) gX6_cleanings_X6_vatNumbered rfl rfl rfl (by decide +kernel) ⟨Nat.le_of_ble_eq_true rfl, Nat.le_of_ble_eq_true rfl⟩ rfl hl.1 rfl (Nat.le_of_ble_eq_true rfl) dX6_cleanings_2 ⟨Nat.le_of_ble_eq_true rfl, Nat.le_of_ble_eq_true rfl⟩ ⟨Nat.le_of_ble_eq_true rfl, Nat.le_of_ble_eq_true rfl⟩ (fun _ => rfl) (fun h_3 => ?_)
    exact absurd h_3 (by rw [show eV σ v = 1 from if_neg kv9]; decide)
theorem tw_inX6_lightIn_3 : ∀ w ∈ (vx_at0 RX6 58 (en 3) exN).filter goodWord, w ∈ wsX6_lightIn := by decide +kernel
set_option maxHeartbeats 4000000 in
set_option maxRecDepth 100000 in
theorem qX6_lightIn (la : Launch) (hst : la.stackTraces = false) (g : EG) (lo : Nat) (ad : Nat → Nat → Nat) (σ : Sg) (u : Nat → Int64) (τ : Sg) (hI : INV σ) (hA : XA lo ad σ) (v : Int32) : vx_Met la yX6_lightIn wsX6_lightIn ({ frames := 7, cells := 2, slots := 12, locals := 122 } : Room) (va_Pc [.ref (ad 0 0), .int v] (fun U => XR g ad σ u τ U.heap ∧ EV g lo U)) (QX (exOf 1 3 0 (t_cell σ 23 v)) (.returned (some (.int (σ 23 (ti v)))))) (XX (exOf 1 3 0 (t_cell σ 23 v))) 2 12 (fun _ => False) := by
  refine vx_ofW (cc := cX6_lightIn) (maxL := 3) (ret := (some .int)) (by decide) rfl ?_
  intro p e s m args below meth c s₁ B hml ht hv
  obtain ⟨rfl, hX, hE⟩ := hv
  have hK := hE.1
  have hx := B.exec
  have hb := B.bytes
  have hr := B.returns
  have hts := atoms_spec (ws := wsX6_lightIn) B.pre
  have hown : s.vm.findClass RX6 = some m.cls := findClass_of_methodNamed B.named
  have hlocks := B.notSynchronized
  have hinX5 : ∀ w ∈ wsX50, w ∈ wsX6_lightIn := by decide +kernel
  have lk134 := hts (.fieldLink RX6 134 "DyehouseLedger$Vat" "light" "I") (by decide +kernel)
  have ti3 := hts (.initialized "java/lang/IllegalStateException") (by decide +kernel)
  have tk3 := hts (.classLink RX6 56 "java/lang/IllegalStateException") (by decide +kernel)
  have tw3 : ∀ w ∈ (vx_at0 RX6 58 (en 3) exN).filter goodWord, w.before _ s = true := fun w h => hts w (tw_inX6_lightIn_3 w h)
  have hl := lv_entry ([.ref (ad 0 0), .int v]) (n := 3) (Nat.le_of_ble_eq_true rfl)
  rw [lg_entry_eq]
  generalize (lg_sl ([.ref (ad 0 0), .int v]) ++ List.replicate (3 - (lg_sl ([.ref (ad 0 0), .int v])).length) Slot.unset).toArray = ls at hl ⊢
  have hl : lv_has ls 3 [(0, .ref (ad 0 0)), (1, .int v)] := hl
  have hbL := hI.l.1
  have hbO := hI.o.1
  have hbV := hI.v.1
  by_cases kv9 : okV σ v
  · obtain ⟨w, hw, rfl⟩ := vp_in_of ((okV_in hI v).mp kv9) (Nat.lt_of_le_of_lt hI.v.1 (by decide))
    have hbw : nV σ ≤ _ := hI.v.1
    have etw : ti (nI w) = w := ti_nI (by omega)
    refine lv_aload_n hx hb dX6_lightIn_0 rfl (lv_at hl 0 rfl) ?_
    refine lv_iload_n hx hb dX6_lightIn_1 rfl (lv_at hl 1 rfl) ?_
    refine xc_v (n := 1) (As := [.int (nI w)]) (rest := []) (v := [.ref (ad 18 w)]) ⟨hx, hb, hml, hown, hts⟩ hE hX ht hlocks (fun q => absurd (show eV σ (nI w) = 0 from if_pos kv9) q) (qX6_vatNumbered la hst g lo ad σ u τ hI (nI w)) gX6_lightIn_X6_vatNumbered rfl rfl rfl (by decide +kernel) ⟨Nat.le_of_ble_eq_true rfl, Nat.le_of_ble_eq_true rfl⟩ rfl hl.1 rfl (Nat.le_of_ble_eq_true rfl) dX6_lightIn_2 ⟨Nat.le_of_ble_eq_true rfl, Nat.le_of_ble_eq_true rfl⟩ ⟨Nat.le_of_ble_eq_true rfl, Nat.le_of_ble_eq_true rfl⟩ (fun _ => congrArg (fun z => [Value.ref (ad 18 z)]) (ti_nI (by omega))) (fun h_1 => ?_)
    refine x_get (K := 18) (i := w) (v := .int (σ 23 w)) hx hb hts hinX5 hown hK hX hw 2 rfl rfl (by decide) rfl lk134 rfl dX6_lightIn_5 ?_
    refine lv_istore_n (lv' := [(2, .int (σ 23 w)), (0, .ref (ad 0 0)), (1, .int (nI w))]) hx hb dX6_lightIn_8 rfl hl (by decide) rfl (fun ls hl => ?_)
    refine lv_iload_n hx hb dX6_lightIn_9 rfl (lv_at hl 0 rfl) ?_
    refine lv_iconst (v := (-1)) hx hb dX6_lightIn_10 (by decide) ?_
    refine lv_icmp_ne (tgt := 22) hx hb dX6_lightIn_11 (by decide) (fun c_2 => ?_) (fun c_2 => ?_)
    · refine lv_iload_n hx hb dX6_lightIn_22 rfl (lv_at hl 0 rfl) ?_
      refine vx_ret ?_
      refine W.widen (k := 2) (n := 12) (Nat.le_of_ble_eq_true rfl) (Nat.le_of_ble_eq_true rfl) ?_
      exact W.iret (v := (σ 23 w)) hx hb hr (fun t ht9 hW => ⟨(show (exOf 1 3 0 (t_cell σ 23 (nI w))) = 0 from by rw [show (t_cell σ 23 (nI w)) = 0 from (by simp only [tD, tL, tV, tO, tW, tLV, tN, t_needs, t_plannedAt, t_shadeOf, t_dist, t_near, t_cell, t_byLight, t_dues, t_share, t_mean, okW, etw]; (repeat' split) <;> first | rfl | contradiction | (exfalso; simp_all [-Int32.not_lt, -Int32.not_le]; done))]; rfl), congrArg (fun z => Outcome.returned (some (Value.int z))) (by first | rfl | (simp [-Int32.not_lt, -Int32.not_le, okL, okV, okO, okR, okD, isP, shP, etw, kv9, h_1, c_2]; done) | (simp_all [-Int32.not_lt, -Int32.not_le, okL, okV, okO, okR, okD, isP, shP]; done)), ht9⟩) (fun _ h => nomatch h) dX6_lightIn_23
    · exact x_throw (k9 := 3) (ic := 58) hx hb hst hown hE ht hlocks (hl.1.trans hml.symm) (fun _ _ _ => trivial) (by decide) tk3 ti3 tw3 bad3 good3 (by decide) (show (exOf 1 3 0 (t_cell σ 23 (nI w))) = 3 from by rw [show (t_cell σ 23 (nI w)) = 2 from (by simp only [tD, tL, tV, tO, tW, tLV, tN, t_needs, t_plannedAt, t_shadeOf, t_dist, t_near, t_cell, t_byLight, t_dues, t_share, t_mean, okW, etw]; (repeat' split) <;> first | rfl | contradiction | (exfalso; simp_all [-Int32.not_lt, -Int32.not_le]; done))]; rfl) dX6_lightIn_14 dX6_lightIn_17 dX6_lightIn_18 dX6_lightIn_21 (Nat.le_of_ble_eq_true rfl) (Nat.le_of_ble_eq_true rfl) (Nat.le_of_ble_eq_true rfl) (Nat.le_of_ble_eq_true rfl) (Nat.le_of_ble_eq_true rfl) (Nat.le_of_ble_eq_true rfl)
  · refine lv_aload_n hx hb dX6_lightIn_0 rfl (lv_at hl 0 rfl) ?_
    refine lv_iload_n hx hb dX6_lightIn_1 rfl (lv_at hl 1 rfl) ?_
    refine xc_v (n := 1) (As := [.int v]) (rest := []) (v := [.ref (ad 18 (ti v))]) ⟨hx, hb, hml, hown, hts⟩ hE hX ht hlocks (fun _ => ((show (exOf 1 3 0 (t_cell σ 23 v)) = 1 from by rw [show (t_cell σ 23 v) = 1 from (by simp only [tD, tL, tV, tO, tW, tLV, tN, t_needs, t_plannedAt, t_shadeOf, t_dist, t_near, t_cell, t_byLight, t_dues, t_share, t_mean, okW]; (repeat' split) <;> first | rfl | contradiction | (exfalso; simp_all [-Int32.not_lt, -Int32.not_le]; done))]; rfl)).trans (show eV σ v = 1 from if_neg kv9).symm) (qX6_vatNumbered la hst g lo ad σ u τ hI v) gX6_lightIn_X6_vatNumbered rfl rfl rfl (by decide +kernel) ⟨Nat.le_of_ble_eq_true rfl, Nat.le_of_ble_eq_true rfl⟩ rfl hl.1 rfl (Nat.le_of_ble_eq_true rfl) dX6_lightIn_2 ⟨Nat.le_of_ble_eq_true rfl, Nat.le_of_ble_eq_true rfl⟩ ⟨Nat.le_of_ble_eq_true rfl, Nat.le_of_ble_eq_true rfl⟩ (fun _ => rfl) (fun h_4 => ?_)
    exact absurd h_4 (by rw [show eV σ v = 1 from if_neg kv9]; decide)
theorem tw_inX6_customerOf_3 : ∀ w ∈ (vx_at0 RX6 58 (en 3) exN).filter goodWord, w ∈ wsX6_customerOf := by decide +kernel
set_option maxHeartbeats 4000000 in
set_option maxRecDepth 100000 in
theorem qX6_customerOf (la : Launch) (hst : la.stackTraces = false) (g : EG) (lo : Nat) (ad : Nat → Nat → Nat) (σ : Sg) (u : Nat → Int64) (τ : Sg) (hI : INV σ) (hA : XA lo ad σ) (v : Int32) : vx_Met la yX6_customerOf wsX6_customerOf ({ frames := 7, cells := 2, slots := 12, locals := 122 } : Room) (va_Pc [.ref (ad 0 0), .int v] (fun U => XR g ad σ u τ U.heap ∧ EV g lo U)) (QX (exOf 1 3 0 (t_cell σ 24 v)) (.returned (some (.int (σ 24 (ti v)))))) (XX (exOf 1 3 0 (t_cell σ 24 v))) 2 12 (fun _ => False) := by
  refine vx_ofW (cc := cX6_customerOf) (maxL := 3) (ret := (some .int)) (by decide) rfl ?_
  intro p e s m args below meth c s₁ B hml ht hv
  obtain ⟨rfl, hX, hE⟩ := hv
  have hK := hE.1
  have hx := B.exec
  have hb := B.bytes
  have hr := B.returns
  have hts := atoms_spec (ws := wsX6_customerOf) B.pre
  have hown : s.vm.findClass RX6 = some m.cls := findClass_of_methodNamed B.named
  have hlocks := B.notSynchronized
  have hinX5 : ∀ w ∈ wsX50, w ∈ wsX6_customerOf := by decide +kernel
  have lk167 := hts (.fieldLink RX6 167 "DyehouseLedger$Vat" "onlyCustomer" "I") (by decide +kernel)
  have ti3 := hts (.initialized "java/lang/IllegalStateException") (by decide +kernel)
  have tk3 := hts (.classLink RX6 56 "java/lang/IllegalStateException") (by decide +kernel)
  have tw3 : ∀ w ∈ (vx_at0 RX6 58 (en 3) exN).filter goodWord, w.before _ s = true := fun w h => hts w (tw_inX6_customerOf_3 w h)
  have hl := lv_entry ([.ref (ad 0 0), .int v]) (n := 3) (Nat.le_of_ble_eq_true rfl)
  rw [lg_entry_eq]
  generalize (lg_sl ([.ref (ad 0 0), .int v]) ++ List.replicate (3 - (lg_sl ([.ref (ad 0 0), .int v])).length) Slot.unset).toArray = ls at hl ⊢
  have hl : lv_has ls 3 [(0, .ref (ad 0 0)), (1, .int v)] := hl
  have hbL := hI.l.1
  have hbO := hI.o.1
  have hbV := hI.v.1
  by_cases kv9 : okV σ v
  · obtain ⟨w, hw, rfl⟩ := vp_in_of ((okV_in hI v).mp kv9) (Nat.lt_of_le_of_lt hI.v.1 (by decide))
    have hbw : nV σ ≤ _ := hI.v.1
    have etw : ti (nI w) = w := ti_nI (by omega)
    refine lv_aload_n hx hb dX6_customerOf_0 rfl (lv_at hl 0 rfl) ?_
    refine lv_iload_n hx hb dX6_customerOf_1 rfl (lv_at hl 1 rfl) ?_
    refine xc_v (n := 1) (As := [.int (nI w)]) (rest := []) (v := [.ref (ad 18 w)]) ⟨hx, hb, hml, hown, hts⟩ hE hX ht hlocks (fun q => absurd (show eV σ (nI w) = 0 from if_pos kv9) q) (qX6_vatNumbered la hst g lo ad σ u τ hI (nI w)) gX6_customerOf_X6_vatNumbered rfl rfl rfl (by decide +kernel) ⟨Nat.le_of_ble_eq_true rfl, Nat.le_of_ble_eq_true rfl⟩ rfl hl.1 rfl (Nat.le_of_ble_eq_true rfl) dX6_customerOf_2 ⟨Nat.le_of_ble_eq_true rfl, Nat.le_of_ble_eq_true rfl⟩ ⟨Nat.le_of_ble_eq_true rfl, Nat.le_of_ble_eq_true rfl⟩ (fun _ => congrArg (fun z => [Value.ref (ad 18 z)]) (ti_nI (by omega))) (fun h_1 => ?_)
    refine x_get (K := 18) (i := w) (v := .int (σ 24 w)) hx hb hts hinX5 hown hK hX hw 3 rfl rfl (by decide) rfl lk167 rfl dX6_customerOf_5 ?_
    refine lv_istore_n (lv' := [(2, .int (σ 24 w)), (0, .ref (ad 0 0)), (1, .int (nI w))]) hx hb dX6_customerOf_8 rfl hl (by decide) rfl (fun ls hl => ?_)
    refine lv_iload_n hx hb dX6_customerOf_9 rfl (lv_at hl 0 rfl) ?_
    refine lv_iconst (v := (-1)) hx hb dX6_customerOf_10 (by decide) ?_
    refine lv_icmp_ne (tgt := 22) hx hb dX6_customerOf_11 (by decide) (fun c_2 => ?_) (fun c_2 => ?_)
    · refine lv_iload_n hx hb dX6_customerOf_22 rfl (lv_at hl 0 rfl) ?_
      refine vx_ret ?_
      refine W.widen (k := 2) (n := 12) (Nat.le_of_ble_eq_true rfl) (Nat.le_of_ble_eq_true rfl) ?_
      exact W.iret (v := (σ 24 w)) hx hb hr (fun t ht9 hW => ⟨(show (exOf 1 3 0 (t_cell σ 24 (nI w))) = 0 from by rw [show (t_cell σ 24 (nI w)) = 0 from (by simp only [tD, tL, tV, tO, tW, tLV, tN, t_needs, t_plannedAt, t_shadeOf, t_dist, t_near, t_cell, t_byLight, t_dues, t_share, t_mean, okW, etw]; (repeat' split) <;> first | rfl | contradiction | (exfalso; simp_all [-Int32.not_lt, -Int32.not_le]; done))]; rfl), congrArg (fun z => Outcome.returned (some (Value.int z))) (by first | rfl | (simp [-Int32.not_lt, -Int32.not_le, okL, okV, okO, okR, okD, isP, shP, etw, kv9, h_1, c_2]; done) | (simp_all [-Int32.not_lt, -Int32.not_le, okL, okV, okO, okR, okD, isP, shP]; done)), ht9⟩) (fun _ h => nomatch h) dX6_customerOf_23
    · exact x_throw (k9 := 3) (ic := 58) hx hb hst hown hE ht hlocks (hl.1.trans hml.symm) (fun _ _ _ => trivial) (by decide) tk3 ti3 tw3 bad3 good3 (by decide) (show (exOf 1 3 0 (t_cell σ 24 (nI w))) = 3 from by rw [show (t_cell σ 24 (nI w)) = 2 from (by simp only [tD, tL, tV, tO, tW, tLV, tN, t_needs, t_plannedAt, t_shadeOf, t_dist, t_near, t_cell, t_byLight, t_dues, t_share, t_mean, okW, etw]; (repeat' split) <;> first | rfl | contradiction | (exfalso; simp_all [-Int32.not_lt, -Int32.not_le]; done))]; rfl) dX6_customerOf_14 dX6_customerOf_17 dX6_customerOf_18 dX6_customerOf_21 (Nat.le_of_ble_eq_true rfl) (Nat.le_of_ble_eq_true rfl) (Nat.le_of_ble_eq_true rfl) (Nat.le_of_ble_eq_true rfl) (Nat.le_of_ble_eq_true rfl) (Nat.le_of_ble_eq_true rfl)
  · refine lv_aload_n hx hb dX6_customerOf_0 rfl (lv_at hl 0 rfl) ?_
    refine lv_iload_n hx hb dX6_customerOf_1 rfl (lv_at hl 1 rfl) ?_
    refine xc_v (n := 1) (As := [.int v]) (rest := []) (v := [.ref (ad 18 (ti v))]) ⟨hx, hb, hml, hown, hts⟩ hE hX ht hlocks (fun _ => ((show (exOf 1 3 0 (t_cell σ 24 v)) = 1 from by rw [show (t_cell σ 24 v) = 1 from (by simp only [tD, tL, tV, tO, tW, tLV, tN, t_needs, t_plannedAt, t_shadeOf, t_dist, t_near, t_cell, t_byLight, t_dues, t_share, t_mean, okW]; (repeat' split) <;> first | rfl | contradiction | (exfalso; simp_all [-Int32.not_lt, -Int32.not_le]; done))]; rfl)).trans (show eV σ v = 1 from if_neg kv9).symm) (qX6_vatNumbered la hst g lo ad σ u τ hI v) gX6_customerOf_X6_vatNumbered rfl rfl rfl (by decide +kernel) ⟨Nat.le_of_ble_eq_true rfl, Nat.le_of_ble_eq_true rfl⟩ rfl hl.1 rfl (Nat.le_of_ble_eq_true rfl) dX6_customerOf_2 ⟨Nat.le_of_ble_eq_true rfl, Nat.le_of_ble_eq_true rfl⟩ ⟨Nat.le_of_ble_eq_true rfl, Nat.le_of_ble_eq_true rfl⟩ (fun _ => rfl) (fun h_4 => ?_)
    exact absurd h_4 (by rw [show eV σ v = 1 from if_neg kv9]; decide)
set_option maxHeartbeats 4000000 in
set_option maxRecDepth 100000 in
theorem qX6_lateBy (la : Launch) (hst : la.stackTraces = false) (g : EG) (lo : Nat) (ad : Nat → Nat → Nat) (σ : Sg) (u : Nat → Int64) (τ : Sg) (hI : INV σ) (hA : XA lo ad σ) (o : Int32) : vx_Met la yX6_lateBy wsX6_lateBy ({ frames := 7, cells := 1, slots := 6, locals := 122 } : Room) (va_Pc [.ref (ad 0 0), .int o] (fun U => XR g ad σ u τ U.heap ∧ EV g lo U)) (QX (exOf 1 0 0 (tO σ o)) (.returned (some (.int (f_late σ o))))) (XX (exOf 1 0 0 (tO σ o))) 1 6 (fun _ => False) := by
  refine vx_ofW (cc := cX6_lateBy) (maxL := 2) (ret := (some .int)) (by decide) rfl ?_
  intro p e s m args below meth c s₁ B hml ht hv
  obtain ⟨rfl, hX, hE⟩ := hv
  have hK := hE.1
  have hx := B.exec
  have hb := B.bytes
  have hr := B.returns
  have hts := atoms_spec (ws := wsX6_lateBy) B.pre
  have hown : s.vm.findClass RX6 = some m.cls := findClass_of_methodNamed B.named
  have hlocks := B.notSynchronized
  have hl := lv_entry ([.ref (ad 0 0), .int o]) (n := 2) (Nat.le_of_ble_eq_true rfl)
  rw [lg_entry_eq]
  generalize (lg_sl ([.ref (ad 0 0), .int o]) ++ List.replicate (2 - (lg_sl ([.ref (ad 0 0), .int o])).length) Slot.unset).toArray = ls at hl ⊢
  have hl : lv_has ls 2 [(0, .ref (ad 0 0)), (1, .int o)] := hl
  have hbL := hI.l.1
  have hbO := hI.o.1
  have hbV := hI.v.1
  by_cases ko9 : okO σ o
  · obtain ⟨a, ha, rfl⟩ := vp_in_of ((okO_in hI o).mp ko9) (Nat.lt_of_le_of_lt hI.o.1 (by decide))
    have hba : nO σ ≤ _ := hI.o.1
    have eta : ti (nI a) = a := ti_nI (by omega)
    refine lv_aload_n hx hb dX6_lateBy_0 rfl (lv_at hl 0 rfl) ?_
    refine lv_aload_n hx hb dX6_lateBy_1 rfl (lv_at hl 0 rfl) ?_
    refine lv_iload_n hx hb dX6_lateBy_2 rfl (lv_at hl 1 rfl) ?_
    refine xc_v (n := 1) (As := [.int (nI a)]) (rest := [.ref (ad 0 0)]) (v := [.ref (ad 15 a)]) ⟨hx, hb, hml, hown, hts⟩ hE hX ht hlocks (fun q => absurd (show eO σ (nI a) = 0 from if_pos ko9) q) (qX6_orderNumbered la hst g lo ad σ u τ hI (nI a)) gX6_lateBy_X6_orderNumbered rfl rfl rfl (by decide +kernel) ⟨Nat.le_of_ble_eq_true rfl, Nat.le_of_ble_eq_true rfl⟩ rfl hl.1 rfl (Nat.le_of_ble_eq_true rfl) dX6_lateBy_3 ⟨Nat.le_of_ble_eq_true rfl, Nat.le_of_ble_eq_true rfl⟩ ⟨Nat.le_of_ble_eq_true rfl, Nat.le_of_ble_eq_true rfl⟩ (fun _ => congrArg (fun z => [Value.ref (ad 15 z)]) (ti_nI (by omega))) (fun h_1 => ?_)
    refine xc_ro (n := 1) (K := 0) (i := 0) (As := [.ref (ad 15 a)]) (rest := []) (v := [.int (f_late σ (nI a))]) ⟨hx, hb, hml, hown, hts⟩ hK hX (show 0 < 1 from Nat.zero_lt_one) rfl rfl (qX6_daysLate la g ad σ u τ hI lo hA a ha) gX6_lateBy_X6_daysLate rfl rfl rfl (by decide +kernel) ⟨Nat.le_of_ble_eq_true rfl, Nat.le_of_ble_eq_true rfl⟩ rfl hl.1 rfl (Nat.le_of_ble_eq_true rfl) dX6_lateBy_6 ⟨Nat.le_of_ble_eq_true rfl, Nat.le_of_ble_eq_true rfl⟩ rfl ?_
    refine vx_ret ?_
    refine W.widen (k := 1) (n := 6) (Nat.le_of_ble_eq_true rfl) (Nat.le_of_ble_eq_true rfl) ?_
    exact W.iret (v := (f_late σ (nI a))) hx hb hr (fun t ht9 hW => ⟨(show (exOf 1 0 0 (tO σ (nI a))) = 0 from by rw [show (tO σ (nI a)) = 0 from (by simp only [tD, tL, tV, tO, tW, tLV, tN, t_needs, t_plannedAt, t_shadeOf, t_dist, t_near, t_cell, t_byLight, t_dues, t_share, t_mean, okW, eta]; (repeat' split) <;> first | rfl | contradiction | (exfalso; simp_all [-Int32.not_lt, -Int32.not_le]; done))]; rfl), congrArg (fun z => Outcome.returned (some (Value.int z))) (by first | rfl | (simp [-Int32.not_lt, -Int32.not_le, okL, okV, okO, okR, okD, isP, shP, eta, ko9, h_1]; done) | (simp_all [-Int32.not_lt, -Int32.not_le, okL, okV, okO, okR, okD, isP, shP]; done)), ht9⟩) (fun _ h => nomatch h) dX6_lateBy_9
  · refine lv_aload_n hx hb dX6_lateBy_0 rfl (lv_at hl 0 rfl) ?_
    refine lv_aload_n hx hb dX6_lateBy_1 rfl (lv_at hl 0 rfl) ?_
    refine lv_iload_n hx hb dX6_lateBy_2 rfl (lv_at hl 1 rfl) ?_
    refine xc_v (n := 1) (As := [.int o]) (rest := [.ref (ad 0 0)]) (v := [.ref (ad 15 (ti o))]) ⟨hx, hb, hml, hown, hts⟩ hE hX ht hlocks (fun _ => ((show (exOf 1 0 0 (tO σ o)) = 1 from by rw [show (tO σ o) = 1 from (by simp only [tD, tL, tV, tO, tW, tLV, tN, t_needs, t_plannedAt, t_shadeOf, t_dist, t_near, t_cell, t_byLight, t_dues, t_share, t_mean, okW]; (repeat' split) <;> first | rfl | contradiction | (exfalso; simp_all [-Int32.not_lt, -Int32.not_le]; done))]; rfl)).trans (show eO σ o = 1 from if_neg ko9).symm) (qX6_orderNumbered la hst g lo ad σ u τ hI o) gX6_lateBy_X6_orderNumbered rfl rfl rfl (by decide +kernel) ⟨Nat.le_of_ble_eq_true rfl, Nat.le_of_ble_eq_true rfl⟩ rfl hl.1 rfl (Nat.le_of_ble_eq_true rfl) dX6_lateBy_3 ⟨Nat.le_of_ble_eq_true rfl, Nat.le_of_ble_eq_true rfl⟩ ⟨Nat.le_of_ble_eq_true rfl, Nat.le_of_ble_eq_true rfl⟩ (fun _ => rfl) (fun h_3 => ?_)
    exact absurd h_3 (by rw [show eO σ o = 1 from if_neg ko9]; decide)
set_option maxHeartbeats 4000000 in
set_option maxRecDepth 100000 in
theorem qX6_due (la : Launch) (hst : la.stackTraces = false) (g : EG) (lo : Nat) (ad : Nat → Nat → Nat) (σ : Sg) (u : Nat → Int64) (τ : Sg) (hI : INV σ) (hA : XA lo ad σ) (o : Int32) : vx_Met la yX6_due wsX6_due ({ frames := 7, cells := 1, slots := 6, locals := 122 } : Room) (va_Pc [.ref (ad 0 0), .int o] (fun U => XR g ad σ u τ U.heap ∧ EV g lo U)) (QX (exOf 1 0 0 (tO σ o)) (.returned (some (.int (f_worth σ o))))) (XX (exOf 1 0 0 (tO σ o))) 1 6 (fun _ => False) := by
  refine vx_ofW (cc := cX6_due) (maxL := 2) (ret := (some .int)) (by decide) rfl ?_
  intro p e s m args below meth c s₁ B hml ht hv
  obtain ⟨rfl, hX, hE⟩ := hv
  have hK := hE.1
  have hx := B.exec
  have hb := B.bytes
  have hr := B.returns
  have hts := atoms_spec (ws := wsX6_due) B.pre
  have hown : s.vm.findClass RX6 = some m.cls := findClass_of_methodNamed B.named
  have hlocks := B.notSynchronized
  have hl := lv_entry ([.ref (ad 0 0), .int o]) (n := 2) (Nat.le_of_ble_eq_true rfl)
  rw [lg_entry_eq]
  generalize (lg_sl ([.ref (ad 0 0), .int o]) ++ List.replicate (2 - (lg_sl ([.ref (ad 0 0), .int o])).length) Slot.unset).toArray = ls at hl ⊢
  have hl : lv_has ls 2 [(0, .ref (ad 0 0)), (1, .int o)] := hl
  have hbL := hI.l.1
  have hbO := hI.o.1
  have hbV := hI.v.1
  by_cases ko9 : okO σ o
  · obtain ⟨a, ha, rfl⟩ := vp_in_of ((okO_in hI o).mp ko9) (Nat.lt_of_le_of_lt hI.o.1 (by decide))
    have hba : nO σ ≤ _ := hI.o.1
    have eta : ti (nI a) = a := ti_nI (by omega)
    refine lv_aload_n hx hb dX6_due_0 rfl (lv_at hl 0 rfl) ?_
    refine lv_aload_n hx hb dX6_due_1 rfl (lv_at hl 0 rfl) ?_
    refine lv_iload_n hx hb dX6_due_2 rfl (lv_at hl 1 rfl) ?_
    refine xc_v (n := 1) (As := [.int (nI a)]) (rest := [.ref (ad 0 0)]) (v := [.ref (ad 15 a)]) ⟨hx, hb, hml, hown, hts⟩ hE hX ht hlocks (fun q => absurd (show eO σ (nI a) = 0 from if_pos ko9) q) (qX6_orderNumbered la hst g lo ad σ u τ hI (nI a)) gX6_due_X6_orderNumbered rfl rfl rfl (by decide +kernel) ⟨Nat.le_of_ble_eq_true rfl, Nat.le_of_ble_eq_true rfl⟩ rfl hl.1 rfl (Nat.le_of_ble_eq_true rfl) dX6_due_3 ⟨Nat.le_of_ble_eq_true rfl, Nat.le_of_ble_eq_true rfl⟩ ⟨Nat.le_of_ble_eq_true rfl, Nat.le_of_ble_eq_true rfl⟩ (fun _ => congrArg (fun z => [Value.ref (ad 15 z)]) (ti_nI (by omega))) (fun h_1 => ?_)
    refine xc_ro (n := 1) (K := 0) (i := 0) (As := [.ref (ad 15 a)]) (rest := []) (v := [.int (f_worth σ (nI a))]) ⟨hx, hb, hml, hown, hts⟩ hK hX (show 0 < 1 from Nat.zero_lt_one) rfl rfl (qX6_amountDue la g ad σ u τ hI lo hA a ha) gX6_due_X6_amountDue rfl rfl rfl (by decide +kernel) ⟨Nat.le_of_ble_eq_true rfl, Nat.le_of_ble_eq_true rfl⟩ rfl hl.1 rfl (Nat.le_of_ble_eq_true rfl) dX6_due_6 ⟨Nat.le_of_ble_eq_true rfl, Nat.le_of_ble_eq_true rfl⟩ rfl ?_
    refine vx_ret ?_
    refine W.widen (k := 1) (n := 6) (Nat.le_of_ble_eq_true rfl) (Nat.le_of_ble_eq_true rfl) ?_
    exact W.iret (v := (f_worth σ (nI a))) hx hb hr (fun t ht9 hW => ⟨(show (exOf 1 0 0 (tO σ (nI a))) = 0 from by rw [show (tO σ (nI a)) = 0 from (by simp only [tD, tL, tV, tO, tW, tLV, tN, t_needs, t_plannedAt, t_shadeOf, t_dist, t_near, t_cell, t_byLight, t_dues, t_share, t_mean, okW, eta]; (repeat' split) <;> first | rfl | contradiction | (exfalso; simp_all [-Int32.not_lt, -Int32.not_le]; done))]; rfl), congrArg (fun z => Outcome.returned (some (Value.int z))) (by first | rfl | (simp [-Int32.not_lt, -Int32.not_le, okL, okV, okO, okR, okD, isP, shP, eta, ko9, h_1]; done) | (simp_all [-Int32.not_lt, -Int32.not_le, okL, okV, okO, okR, okD, isP, shP]; done)), ht9⟩) (fun _ h => nomatch h) dX6_due_9
  · refine lv_aload_n hx hb dX6_due_0 rfl (lv_at hl 0 rfl) ?_
    refine lv_aload_n hx hb dX6_due_1 rfl (lv_at hl 0 rfl) ?_
    refine lv_iload_n hx hb dX6_due_2 rfl (lv_at hl 1 rfl) ?_
    refine xc_v (n := 1) (As := [.int o]) (rest := [.ref (ad 0 0)]) (v := [.ref (ad 15 (ti o))]) ⟨hx, hb, hml, hown, hts⟩ hE hX ht hlocks (fun _ => ((show (exOf 1 0 0 (tO σ o)) = 1 from by rw [show (tO σ o) = 1 from (by simp only [tD, tL, tV, tO, tW, tLV, tN, t_needs, t_plannedAt, t_shadeOf, t_dist, t_near, t_cell, t_byLight, t_dues, t_share, t_mean, okW]; (repeat' split) <;> first | rfl | contradiction | (exfalso; simp_all [-Int32.not_lt, -Int32.not_le]; done))]; rfl)).trans (show eO σ o = 1 from if_neg ko9).symm) (qX6_orderNumbered la hst g lo ad σ u τ hI o) gX6_due_X6_orderNumbered rfl rfl rfl (by decide +kernel) ⟨Nat.le_of_ble_eq_true rfl, Nat.le_of_ble_eq_true rfl⟩ rfl hl.1 rfl (Nat.le_of_ble_eq_true rfl) dX6_due_3 ⟨Nat.le_of_ble_eq_true rfl, Nat.le_of_ble_eq_true rfl⟩ ⟨Nat.le_of_ble_eq_true rfl, Nat.le_of_ble_eq_true rfl⟩ (fun _ => rfl) (fun h_3 => ?_)
    exact absurd h_3 (by rw [show eO σ o = 1 from if_neg ko9]; decide)
set_option maxHeartbeats 4000000 in
set_option maxRecDepth 100000 in
theorem qX6_stock (la : Launch) (hst : la.stackTraces = false) (g : EG) (lo : Nat) (ad : Nat → Nat → Nat) (σ : Sg) (u : Nat → Int64) (τ : Sg) (hI : INV σ) (hA : XA lo ad σ) (d : Int32) : vx_Met la yX6_stock wsX6_stock ({ frames := 8, cells := 1, slots := 6, locals := 142 } : Room) (va_Pc [.ref (ad 0 0), .int d] (fun U => XR g ad σ u τ U.heap ∧ EV g lo U)) (QX (exOf 2 0 0 (tD d)) (.returned (some (.int (σ 7 (ti d)))))) (XX (exOf 2 0 0 (tD d))) 1 6 (fun _ => False) := by
  refine vx_ofW (cc := cX6_stock) (maxL := 2) (ret := (some .int)) (by decide) rfl ?_
  intro p e s m args below meth c s₁ B hml ht hv
  obtain ⟨rfl, hX, hE⟩ := hv
  have hK := hE.1
  have hx := B.exec
  have hb := B.bytes
  have hr := B.returns
  have hts := atoms_spec (ws := wsX6_stock) B.pre
  have hown : s.vm.findClass RX6 = some m.cls := findClass_of_methodNamed B.named
  have hlocks := B.notSynchronized
  have hinX6 : ∀ w ∈ wsX60, w ∈ wsX6_stock := by decide +kernel
  have lk33 := hts (.fieldLink RX6 33 "DyehouseLedger" "gramsInStock" "[I") (by decide +kernel)
  have hl := lv_entry ([.ref (ad 0 0), .int d]) (n := 2) (Nat.le_of_ble_eq_true rfl)
  rw [lg_entry_eq]
  generalize (lg_sl ([.ref (ad 0 0), .int d]) ++ List.replicate (2 - (lg_sl ([.ref (ad 0 0), .int d])).length) Slot.unset).toArray = ls at hl ⊢
  have hl : lv_has ls 2 [(0, .ref (ad 0 0)), (1, .int d)] := hl
  have hbL := hI.l.1
  have hbO := hI.o.1
  have hbV := hI.v.1
  refine lv_iload_n hx hb dX6_stock_0 rfl (lv_at hl 1 rfl) ?_
  refine xc_s (n := 1) (As := [.int d]) (rest := []) (v := []) ⟨hx, hb, hml, hown, hts⟩ hE ht hlocks (fun q => by have h9 : ¬ (okD d) := fun z => q (show eD d = 0 from if_pos z); exact (show (exOf 2 0 0 (tD d)) = 2 from by rw [show (tD d) = 1 from (by simp only [tD, tL, tV, tO, tW, tLV, tN, t_needs, t_plannedAt, t_shadeOf, t_dist, t_near, t_cell, t_byLight, t_dues, t_share, t_mean, okW]; (repeat' split) <;> first | rfl | contradiction | (exfalso; simp_all [-Int32.not_lt, -Int32.not_le]; done))]; rfl).trans (show eD d = 2 from if_neg h9).symm) (qX6_checkDye la hst g lo d) gX6_stock_X6_checkDye rfl rfl rfl (by decide +kernel) ⟨Nat.le_of_ble_eq_true rfl, Nat.le_of_ble_eq_true rfl⟩ rfl hl.1 rfl (Nat.le_of_ble_eq_true rfl) dX6_stock_1 ⟨Nat.le_of_ble_eq_true rfl, Nat.le_of_ble_eq_true rfl⟩ ⟨Nat.le_of_ble_eq_true rfl, Nat.le_of_ble_eq_true rfl⟩ (fun _ => rfl) (fun h_2 => ?_)
  have kc_1 : okD d := Decidable.byContradiction fun z => absurd (show eD d = 0 from h_2) (by rw [show eD d = 2 from if_neg z]; decide)
  have kd := (okD_in d).mp kc_1
  refine lv_aload_n hx hb dX6_stock_4 rfl (lv_at hl 0 rfl) ?_
  refine x_get (K := 0) (i := 0) (v := .ref (ad 5 0)) hx hb hts hinX6 hown hK hX (show 0 < 1 from Nat.zero_lt_one) 4 rfl rfl (by decide) rfl lk33 rfl dX6_stock_5 ?_
  refine lv_iload_n hx hb dX6_stock_8 rfl (lv_at hl 1 rfl) ?_
  refine x_iald (K := 5) (i := 0) (n := 3) (f := (σ 7)) (j := d) (x := (σ 7 (ti d))) hx hb hK hX (show 0 < 1 from Nat.zero_lt_one) rfl (by assumption) rfl dX6_stock_9 ?_
  refine vx_ret ?_
  refine W.widen (k := 1) (n := 6) (Nat.le_of_ble_eq_true rfl) (Nat.le_of_ble_eq_true rfl) ?_
  exact W.iret (v := (σ 7 (ti d))) hx hb hr (fun t ht9 hW => ⟨(show (exOf 2 0 0 (tD d)) = 0 from by rw [show (tD d) = 0 from (by simp only [tD, tL, tV, tO, tW, tLV, tN, t_needs, t_plannedAt, t_shadeOf, t_dist, t_near, t_cell, t_byLight, t_dues, t_share, t_mean, okW]; (repeat' split) <;> first | rfl | contradiction | (exfalso; simp_all [-Int32.not_lt, -Int32.not_le]; done))]; rfl), congrArg (fun z => Outcome.returned (some (Value.int z))) (by first | rfl | (simp [-Int32.not_lt, -Int32.not_le, okL, okV, okO, okR, okD, isP, shP, kc_1, h_2]; done) | (simp_all [-Int32.not_lt, -Int32.not_le, okL, okV, okO, okR, okD, isP, shP]; done)), ht9⟩) (fun _ h => nomatch h) dX6_stock_10
set_option maxHeartbeats 4000000 in
set_option maxRecDepth 100000 in
theorem qX6_used (la : Launch) (hst : la.stackTraces = false) (g : EG) (lo : Nat) (ad : Nat → Nat → Nat) (σ : Sg) (u : Nat → Int64) (τ : Sg) (hI : INV σ) (hA : XA lo ad σ) (d : Int32) : vx_Met la yX6_used wsX6_used ({ frames := 8, cells := 1, slots := 6, locals := 142 } : Room) (va_Pc [.ref (ad 0 0), .int d] (fun U => XR g ad σ u τ U.heap ∧ EV g lo U)) (QX (exOf 2 0 0 (tD d)) (.returned (some (.long (u (ti d)))))) (XX (exOf 2 0 0 (tD d))) 1 6 (fun _ => False) := by
  refine vx_ofW (cc := cX6_used) (maxL := 2) (ret := (some .long)) (by decide) rfl ?_
  intro p e s m args below meth c s₁ B hml ht hv
  obtain ⟨rfl, hX, hE⟩ := hv
  have hK := hE.1
  have hx := B.exec
  have hb := B.bytes
  have hr := B.returns
  have hts := atoms_spec (ws := wsX6_used) B.pre
  have hown : s.vm.findClass RX6 = some m.cls := findClass_of_methodNamed B.named
  have hlocks := B.notSynchronized
  have hinX6 : ∀ w ∈ wsX60, w ∈ wsX6_used := by decide +kernel
  have lk37 := hts (.fieldLink RX6 37 "DyehouseLedger" "gramsUsed" "[J") (by decide +kernel)
  have hl := lv_entry ([.ref (ad 0 0), .int d]) (n := 2) (Nat.le_of_ble_eq_true rfl)
  rw [lg_entry_eq]
  generalize (lg_sl ([.ref (ad 0 0), .int d]) ++ List.replicate (2 - (lg_sl ([.ref (ad 0 0), .int d])).length) Slot.unset).toArray = ls at hl ⊢
  have hl : lv_has ls 2 [(0, .ref (ad 0 0)), (1, .int d)] := hl
  have hbL := hI.l.1
  have hbO := hI.o.1
  have hbV := hI.v.1
  refine lv_iload_n hx hb dX6_used_0 rfl (lv_at hl 1 rfl) ?_
  refine xc_s (n := 1) (As := [.int d]) (rest := []) (v := []) ⟨hx, hb, hml, hown, hts⟩ hE ht hlocks (fun q => by have h9 : ¬ (okD d) := fun z => q (show eD d = 0 from if_pos z); exact (show (exOf 2 0 0 (tD d)) = 2 from by rw [show (tD d) = 1 from (by simp only [tD, tL, tV, tO, tW, tLV, tN, t_needs, t_plannedAt, t_shadeOf, t_dist, t_near, t_cell, t_byLight, t_dues, t_share, t_mean, okW]; (repeat' split) <;> first | rfl | contradiction | (exfalso; simp_all [-Int32.not_lt, -Int32.not_le]; done))]; rfl).trans (show eD d = 2 from if_neg h9).symm) (qX6_checkDye la hst g lo d) gX6_used_X6_checkDye rfl rfl rfl (by decide +kernel) ⟨Nat.le_of_ble_eq_true rfl, Nat.le_of_ble_eq_true rfl⟩ rfl hl.1 rfl (Nat.le_of_ble_eq_true rfl) dX6_used_1 ⟨Nat.le_of_ble_eq_true rfl, Nat.le_of_ble_eq_true rfl⟩ ⟨Nat.le_of_ble_eq_true rfl, Nat.le_of_ble_eq_true rfl⟩ (fun _ => rfl) (fun h_2 => ?_)
  have kc_1 : okD d := Decidable.byContradiction fun z => absurd (show eD d = 0 from h_2) (by rw [show eD d = 2 from if_neg z]; decide)
  have kd := (okD_in d).mp kc_1
  refine lv_aload_n hx hb dX6_used_4 rfl (lv_at hl 0 rfl) ?_
  refine x_get (K := 0) (i := 0) (v := .ref (ad 6 0)) hx hb hts hinX6 hown hK hX (show 0 < 1 from Nat.zero_lt_one) 5 rfl rfl (by decide) rfl lk37 rfl dX6_used_5 ?_
  refine lv_iload_n hx hb dX6_used_8 rfl (lv_at hl 1 rfl) ?_
  refine x_lald (j := d) (x := (u (ti d))) hx hb hK hX (by assumption) rfl dX6_used_9 ?_
  refine vx_ret ?_
  refine W.widen (k := 1) (n := 6) (Nat.le_of_ble_eq_true rfl) (Nat.le_of_ble_eq_true rfl) ?_
  exact W.lret (v := (u (ti d))) hx hb hr (fun t ht9 hW => ⟨(show (exOf 2 0 0 (tD d)) = 0 from by rw [show (tD d) = 0 from (by simp only [tD, tL, tV, tO, tW, tLV, tN, t_needs, t_plannedAt, t_shadeOf, t_dist, t_near, t_cell, t_byLight, t_dues, t_share, t_mean, okW]; (repeat' split) <;> first | rfl | contradiction | (exfalso; simp_all [-Int32.not_lt, -Int32.not_le]; done))]; rfl), congrArg (fun z => Outcome.returned (some (Value.long z))) (by first | rfl | (simp [-Int32.not_lt, -Int32.not_le, okL, okV, okO, okR, okD, isP, shP, kc_1, h_2]; done) | (simp_all [-Int32.not_lt, -Int32.not_le, okL, okV, okO, okR, okD, isP, shP]; done)), ht9⟩) (fun _ h => nomatch h) dX6_used_10
theorem tw_inX6_shadeOf_5 : ∀ w ∈ (vx_at0 RX6 200 (en 5) exN).filter goodWord, w ∈ wsX6_shadeOf := by decide +kernel
set_option maxHeartbeats 4000000 in
set_option maxRecDepth 100000 in
theorem qX6_shadeOf (la : Launch) (hst : la.stackTraces = false) (g : EG) (lo : Nat) (ad : Nat → Nat → Nat) (σ : Sg) (u : Nat → Int64) (τ : Sg) (hI : INV σ) (hA : XA lo ad σ) (l pt : Int32) : vx_Met la yX6_shadeOf wsX6_shadeOf ({ frames := 8, cells := 3, slots := 18, locals := 144 } : Room) (va_Pc [.ref (ad 0 0), .int l, .int pt] (fun U => XR g ad σ u τ U.heap ∧ EV g lo U)) (QX (exOf 1 3 5 (t_shadeOf σ l pt)) (.returned (some (.int (σ 16 (ti (3 * l + pt))))))) (XX (exOf 1 3 5 (t_shadeOf σ l pt))) 3 18 (fun _ => False) := by
  refine vx_ofW (cc := cX6_shadeOf) (maxL := 4) (ret := (some .int)) (by decide) rfl ?_
  intro p e s m args below meth c s₁ B hml ht hv
  obtain ⟨rfl, hX, hE⟩ := hv
  have hK := hE.1
  have hx := B.exec
  have hb := B.bytes
  have hr := B.returns
  have hts := atoms_spec (ws := wsX6_shadeOf) B.pre
  have hown : s.vm.findClass RX6 = some m.cls := findClass_of_methodNamed B.named
  have hlocks := B.notSynchronized
  have hinX0 : ∀ w ∈ wsX00, w ∈ wsX6_shadeOf := by decide +kernel
  have hinX4 : ∀ w ∈ wsX40, w ∈ wsX6_shadeOf := by decide +kernel
  have lk140 := hts (.fieldLink RX6 140 "DyehouseLedger$Lot" "shade" "LDyehouseLedger$Shade;") (by decide +kernel)
  have lk218 := hts (.fieldLink RX6 218 "DyehouseLedger$Shade" "light" "I") (by decide +kernel)
  have lk219 := hts (.fieldLink RX6 219 "DyehouseLedger$Shade" "red" "I") (by decide +kernel)
  have lk222 := hts (.fieldLink RX6 222 "DyehouseLedger$Shade" "blue" "I") (by decide +kernel)
  have ti5 := hts (.initialized "java/lang/IndexOutOfBoundsException") (by decide +kernel)
  have tk5 := hts (.classLink RX6 198 "java/lang/IndexOutOfBoundsException") (by decide +kernel)
  have tw5 : ∀ w ∈ (vx_at0 RX6 200 (en 5) exN).filter goodWord, w.before _ s = true := fun w h => hts w (tw_inX6_shadeOf_5 w h)
  have hl := lv_entry ([.ref (ad 0 0), .int l, .int pt]) (n := 4) (Nat.le_of_ble_eq_true rfl)
  rw [lg_entry_eq]
  generalize (lg_sl ([.ref (ad 0 0), .int l, .int pt]) ++ List.replicate (4 - (lg_sl ([.ref (ad 0 0), .int l, .int pt])).length) Slot.unset).toArray = ls at hl ⊢
  have hl : lv_has ls 4 [(0, .ref (ad 0 0)), (1, .int l), (2, .int pt)] := hl
  have hbL := hI.l.1
  have hbO := hI.o.1
  have hbV := hI.v.1
  by_cases kl9 : okL σ l
  · obtain ⟨i, hi, rfl⟩ := vp_in_of ((okL_in hI l).mp kl9) (Nat.lt_of_le_of_lt hI.l.1 (by decide))
    have hbi : nL σ ≤ _ := hI.l.1
    have eti : ti (nI i) = i := ti_nI (by omega)
    refine lv_aload_n hx hb dX6_shadeOf_0 rfl (lv_at hl 0 rfl) ?_
    refine lv_iload_n hx hb dX6_shadeOf_1 rfl (lv_at hl 1 rfl) ?_
    refine xc_v (n := 1) (As := [.int (nI i)]) (rest := []) (v := [.ref (ad 16 i)]) ⟨hx, hb, hml, hown, hts⟩ hE hX ht hlocks (fun q => by have h9 : ¬ (¬ σ 21 i = 119) := fun z => q (by unfold eSd; rw [ti_nI (by omega), if_pos kl9]; exact if_neg z); exact (show (exOf 1 3 5 (t_shadeOf σ (nI i) pt)) = 3 from by rw [show (t_shadeOf σ (nI i) pt) = 2 from (by simp only [tD, tL, tV, tO, tW, tLV, tN, t_needs, t_plannedAt, t_shadeOf, t_dist, t_near, t_cell, t_byLight, t_dues, t_share, t_mean, okW, eti]; (repeat' split) <;> first | rfl | contradiction | (exfalso; simp_all [-Int32.not_lt, -Int32.not_le]; done))]; rfl).trans (show eSd σ (nI i) = 3 from by unfold eSd; rw [ti_nI (by omega), if_pos kl9]; exact if_pos (Decidable.not_not.mp h9)).symm) (qX6_shadedLotNumbered la hst g lo ad σ u τ hI (nI i)) gX6_shadeOf_X6_shadedLotNumbered rfl rfl rfl (by decide +kernel) ⟨Nat.le_of_ble_eq_true rfl, Nat.le_of_ble_eq_true rfl⟩ rfl hl.1 rfl (Nat.le_of_ble_eq_true rfl) dX6_shadeOf_2 ⟨Nat.le_of_ble_eq_true rfl, Nat.le_of_ble_eq_true rfl⟩ ⟨Nat.le_of_ble_eq_true rfl, Nat.le_of_ble_eq_true rfl⟩ (fun _ => congrArg (fun z => [Value.ref (ad 16 z)]) (ti_nI (by omega))) (fun h_1 => ?_)
    have hsi : ¬ σ 21 i = 119 := eSd0 hI hi h_1
    refine x_get (K := 16) (i := i) (v := .ref (ad 17 i)) hx hb hts hinX0 hown hK hX hi 3 rfl rfl (by decide) rfl lk140 rfl dX6_shadeOf_5 ?_
    refine lv_astore_n (lv' := [(3, .ref (ad 17 i)), (0, .ref (ad 0 0)), (1, .int (nI i)), (2, .int pt)]) hx hb dX6_shadeOf_8 rfl hl (by decide) rfl (fun ls hl => ?_)
    refine lv_iload_n hx hb dX6_shadeOf_9 rfl (lv_at hl 3 rfl) ?_
    by_cases kpt : okD pt
    · rcases dye3 kpt with rfl | rfl | rfl
      · refine lv_tableIn hx hb (off := 26) (tgt := 36) dX6_shadeOf_10 (by decide) (by decide) (by decide +kernel) (by decide) ?_
        refine lv_aload_n hx hb dX6_shadeOf_36 rfl (lv_at hl 0 rfl) ?_
        refine x_get (K := 17) (i := i) (v := .int (σ 16 (3 * i))) hx hb hts hinX4 hown hK hX hi 0 rfl rfl (by decide) rfl lk218 rfl dX6_shadeOf_37 ?_
        refine vx_ret ?_
        refine W.widen (k := 3) (n := 18) (Nat.le_of_ble_eq_true rfl) (Nat.le_of_ble_eq_true rfl) ?_
        exact W.iret (v := (σ 16 (3 * i))) hx hb hr (fun t ht9 hW => ⟨(show (exOf 1 3 5 (t_shadeOf σ (nI i) 0)) = 0 from by rw [show (t_shadeOf σ (nI i) 0) = 0 from (by simp only [tD, tL, tV, tO, tW, tLV, tN, t_needs, t_plannedAt, t_shadeOf, t_dist, t_near, t_cell, t_byLight, t_dues, t_share, t_mean, okW, eti]; (repeat' split) <;> first | rfl | contradiction | (exfalso; simp_all [-Int32.not_lt, -Int32.not_le]; done))]; rfl), congrArg (fun z => Outcome.returned (some (Value.int z))) (congrArg (σ 16) (t3 0 (by decide) (by omega)).symm), ht9⟩) (fun _ h => nomatch h) dX6_shadeOf_40
      · refine lv_tableIn hx hb (off := 31) (tgt := 41) dX6_shadeOf_10 (by decide) (by decide) (by decide +kernel) (by decide) ?_
        refine lv_aload_n hx hb dX6_shadeOf_41 rfl (lv_at hl 0 rfl) ?_
        refine x_get (K := 17) (i := i) (v := .int (σ 16 (3 * i + 1))) hx hb hts hinX4 hown hK hX hi 1 rfl rfl (by decide) rfl lk219 rfl dX6_shadeOf_42 ?_
        refine vx_ret ?_
        refine W.widen (k := 3) (n := 18) (Nat.le_of_ble_eq_true rfl) (Nat.le_of_ble_eq_true rfl) ?_
        exact W.iret (v := (σ 16 (3 * i + 1))) hx hb hr (fun t ht9 hW => ⟨(show (exOf 1 3 5 (t_shadeOf σ (nI i) 1)) = 0 from by rw [show (t_shadeOf σ (nI i) 1) = 0 from (by simp only [tD, tL, tV, tO, tW, tLV, tN, t_needs, t_plannedAt, t_shadeOf, t_dist, t_near, t_cell, t_byLight, t_dues, t_share, t_mean, okW, eti]; (repeat' split) <;> first | rfl | contradiction | (exfalso; simp_all [-Int32.not_lt, -Int32.not_le]; done))]; rfl), congrArg (fun z => Outcome.returned (some (Value.int z))) (congrArg (σ 16) (t3 1 (by decide) (by omega)).symm), ht9⟩) (fun _ h => nomatch h) dX6_shadeOf_45
      · refine lv_tableIn hx hb (off := 36) (tgt := 46) dX6_shadeOf_10 (by decide) (by decide) (by decide +kernel) (by decide) ?_
        refine lv_aload_n hx hb dX6_shadeOf_46 rfl (lv_at hl 0 rfl) ?_
        refine x_get (K := 17) (i := i) (v := .int (σ 16 (3 * i + 2))) hx hb hts hinX4 hown hK hX hi 2 rfl rfl (by decide) rfl lk222 rfl dX6_shadeOf_47 ?_
        refine vx_ret ?_
        refine W.widen (k := 3) (n := 18) (Nat.le_of_ble_eq_true rfl) (Nat.le_of_ble_eq_true rfl) ?_
        exact W.iret (v := (σ 16 (3 * i + 2))) hx hb hr (fun t ht9 hW => ⟨(show (exOf 1 3 5 (t_shadeOf σ (nI i) 2)) = 0 from by rw [show (t_shadeOf σ (nI i) 2) = 0 from (by simp only [tD, tL, tV, tO, tW, tLV, tN, t_needs, t_plannedAt, t_shadeOf, t_dist, t_near, t_cell, t_byLight, t_dues, t_share, t_mean, okW, eti]; (repeat' split) <;> first | rfl | contradiction | (exfalso; simp_all [-Int32.not_lt, -Int32.not_le]; done))]; rfl), congrArg (fun z => Outcome.returned (some (Value.int z))) (congrArg (σ 16) (t3 2 (by decide) (by omega)).symm), ht9⟩) (fun _ h => nomatch h) dX6_shadeOf_50
    · refine lv_tableOut hx hb (tgt := 51) dX6_shadeOf_10 (dyeN kpt) (by decide) ?_
      exact x_throw (k9 := 5) (ic := 200) hx hb hst hown hE ht hlocks (hl.1.trans hml.symm) (fun _ _ _ => trivial) (by decide) tk5 ti5 tw5 bad5 good5 (by decide) (show (exOf 1 3 5 (t_shadeOf σ (nI i) pt)) = 5 from by rw [show (t_shadeOf σ (nI i) pt) = 3 from (by simp only [tD, tL, tV, tO, tW, tLV, tN, t_needs, t_plannedAt, t_shadeOf, t_dist, t_near, t_cell, t_byLight, t_dues, t_share, t_mean, okW, eti]; (repeat' split) <;> first | rfl | contradiction | (exfalso; simp_all [-Int32.not_lt, -Int32.not_le]; done))]; rfl) dX6_shadeOf_51 dX6_shadeOf_54 dX6_shadeOf_55 dX6_shadeOf_58 (Nat.le_of_ble_eq_true rfl) (Nat.le_of_ble_eq_true rfl) (Nat.le_of_ble_eq_true rfl) (Nat.le_of_ble_eq_true rfl) (Nat.le_of_ble_eq_true rfl) (Nat.le_of_ble_eq_true rfl)
  · refine lv_aload_n hx hb dX6_shadeOf_0 rfl (lv_at hl 0 rfl) ?_
    refine lv_iload_n hx hb dX6_shadeOf_1 rfl (lv_at hl 1 rfl) ?_
    refine xc_v (n := 1) (As := [.int l]) (rest := []) (v := [.ref (ad 16 (ti l))]) ⟨hx, hb, hml, hown, hts⟩ hE hX ht hlocks (fun _ => ((show (exOf 1 3 5 (t_shadeOf σ l pt)) = 1 from by rw [show (t_shadeOf σ l pt) = 1 from (by simp only [tD, tL, tV, tO, tW, tLV, tN, t_needs, t_plannedAt, t_shadeOf, t_dist, t_near, t_cell, t_byLight, t_dues, t_share, t_mean, okW]; (repeat' split) <;> first | rfl | contradiction | (exfalso; simp_all [-Int32.not_lt, -Int32.not_le]; done))]; rfl)).trans (show eSd σ l = 1 from if_neg kl9).symm) (qX6_shadedLotNumbered la hst g lo ad σ u τ hI l) gX6_shadeOf_X6_shadedLotNumbered rfl rfl rfl (by decide +kernel) ⟨Nat.le_of_ble_eq_true rfl, Nat.le_of_ble_eq_true rfl⟩ rfl hl.1 rfl (Nat.le_of_ble_eq_true rfl) dX6_shadeOf_2 ⟨Nat.le_of_ble_eq_true rfl, Nat.le_of_ble_eq_true rfl⟩ ⟨Nat.le_of_ble_eq_true rfl, Nat.le_of_ble_eq_true rfl⟩ (fun _ => rfl) (fun h_3 => ?_)
    exact absurd h_3 (by rw [show eSd σ l = 1 from if_neg kl9]; decide)
theorem tw_inX6_distance_3 : ∀ w ∈ (vx_at0 RX6 58 (en 3) exN).filter goodWord, w ∈ wsX6_distance := by decide +kernel
set_option maxHeartbeats 4000000 in
set_option maxRecDepth 100000 in
theorem qX6_distance (la : Launch) (hst : la.stackTraces = false) (g : EG) (lo : Nat) (ad : Nat → Nat → Nat) (σ : Sg) (u : Nat → Int64) (τ : Sg) (hI : INV σ) (hA : XA lo ad σ) (l b : Int32) : vx_Met la yX6_distance wsX6_distance ({ frames := 7, cells := 3, slots := 18, locals := 122 } : Room) (va_Pc [.ref (ad 0 0), .int l, .int b] (fun U => XR g ad σ u τ U.heap ∧ EV g lo U)) (QX (exOf 1 3 0 (t_dist σ l b)) (.returned (some (.int (f_apart σ l b))))) (XX (exOf 1 3 0 (t_dist σ l b))) 3 18 (fun _ => False) := by
  refine vx_ofW (cc := cX6_distance) (maxL := 5) (ret := (some .int)) (by decide) rfl ?_
  intro p e s m args below meth c s₁ B hml ht hv
  obtain ⟨rfl, hX, hE⟩ := hv
  have hK := hE.1
  have hx := B.exec
  have hb := B.bytes
  have hr := B.returns
  have hts := atoms_spec (ws := wsX6_distance) B.pre
  have hown : s.vm.findClass RX6 = some m.cls := findClass_of_methodNamed B.named
  have hlocks := B.notSynchronized
  have hinX0 : ∀ w ∈ wsX00, w ∈ wsX6_distance := by decide +kernel
  have lk140 := hts (.fieldLink RX6 140 "DyehouseLedger$Lot" "shade" "LDyehouseLedger$Shade;") (by decide +kernel)
  have lk147 := hts (.fieldLink RX6 147 "DyehouseLedger$Lot" "state" "C") (by decide +kernel)
  have ti3 := hts (.initialized "java/lang/IllegalStateException") (by decide +kernel)
  have tk3 := hts (.classLink RX6 56 "java/lang/IllegalStateException") (by decide +kernel)
  have tw3 : ∀ w ∈ (vx_at0 RX6 58 (en 3) exN).filter goodWord, w.before _ s = true := fun w h => hts w (tw_inX6_distance_3 w h)
  have hl := lv_entry ([.ref (ad 0 0), .int l, .int b]) (n := 5) (Nat.le_of_ble_eq_true rfl)
  rw [lg_entry_eq]
  generalize (lg_sl ([.ref (ad 0 0), .int l, .int b]) ++ List.replicate (5 - (lg_sl ([.ref (ad 0 0), .int l, .int b])).length) Slot.unset).toArray = ls at hl ⊢
  have hl : lv_has ls 5 [(0, .ref (ad 0 0)), (1, .int l), (2, .int b)] := hl
  have hbL := hI.l.1
  have hbO := hI.o.1
  have hbV := hI.v.1
  by_cases kl9 : okL σ l
  · obtain ⟨i, hi, rfl⟩ := vp_in_of ((okL_in hI l).mp kl9) (Nat.lt_of_le_of_lt hI.l.1 (by decide))
    have hbi : nL σ ≤ _ := hI.l.1
    have eti : ti (nI i) = i := ti_nI (by omega)
    by_cases kb9 : okL σ b
    · obtain ⟨j, hj, rfl⟩ := vp_in_of ((okL_in hI b).mp kb9) (Nat.lt_of_le_of_lt hI.l.1 (by decide))
      have hbj : nL σ ≤ _ := hI.l.1
      have etj : ti (nI j) = j := ti_nI (by omega)
      refine lv_aload_n hx hb dX6_distance_0 rfl (lv_at hl 0 rfl) ?_
      refine lv_iload_n hx hb dX6_distance_1 rfl (lv_at hl 1 rfl) ?_
      refine xc_v (n := 1) (As := [.int (nI i)]) (rest := []) (v := [.ref (ad 16 i)]) ⟨hx, hb, hml, hown, hts⟩ hE hX ht hlocks (fun q => absurd (show eL σ (nI i) = 0 from if_pos kl9) q) (qX6_lotNumbered la hst g lo ad σ u τ hI (nI i)) gX6_distance_X6_lotNumbered rfl rfl rfl (by decide +kernel) ⟨Nat.le_of_ble_eq_true rfl, Nat.le_of_ble_eq_true rfl⟩ rfl hl.1 rfl (Nat.le_of_ble_eq_true rfl) dX6_distance_2 ⟨Nat.le_of_ble_eq_true rfl, Nat.le_of_ble_eq_true rfl⟩ ⟨Nat.le_of_ble_eq_true rfl, Nat.le_of_ble_eq_true rfl⟩ (fun _ => congrArg (fun z => [Value.ref (ad 16 z)]) (ti_nI (by omega))) (fun h_1 => ?_)
      refine lv_astore_n (lv' := [(3, .ref (ad 16 i)), (0, .ref (ad 0 0)), (1, .int (nI i)), (2, .int (nI j))]) hx hb dX6_distance_5 rfl hl (by decide) rfl (fun ls hl => ?_)
      refine lv_aload_n hx hb dX6_distance_6 rfl (lv_at hl 1 rfl) ?_
      refine lv_iload_n hx hb dX6_distance_7 rfl (lv_at hl 3 rfl) ?_
      refine xc_v (n := 1) (As := [.int (nI j)]) (rest := []) (v := [.ref (ad 16 j)]) ⟨hx, hb, hml, hown, hts⟩ hE hX ht hlocks (fun q => absurd (show eL σ (nI j) = 0 from if_pos kb9) q) (qX6_lotNumbered la hst g lo ad σ u τ hI (nI j)) gX6_distance_X6_lotNumbered rfl rfl rfl (by decide +kernel) ⟨Nat.le_of_ble_eq_true rfl, Nat.le_of_ble_eq_true rfl⟩ rfl hl.1 rfl (Nat.le_of_ble_eq_true rfl) dX6_distance_8 ⟨Nat.le_of_ble_eq_true rfl, Nat.le_of_ble_eq_true rfl⟩ ⟨Nat.le_of_ble_eq_true rfl, Nat.le_of_ble_eq_true rfl⟩ (fun _ => congrArg (fun z => [Value.ref (ad 16 z)]) (ti_nI (by omega))) (fun h_2 => ?_)
      refine lv_astore (lv' := [(4, .ref (ad 16 j)), (3, .ref (ad 16 i)), (0, .ref (ad 0 0)), (1, .int (nI i)), (2, .int (nI j))]) hx hb dX6_distance_11 hl (by decide) rfl (fun ls hl => ?_)
      refine lv_aload_n hx hb dX6_distance_13 rfl (lv_at hl 1 rfl) ?_
      refine x_get (K := 16) (i := i) (v := .int (σ 21 i)) hx hb hts hinX0 hown hK hX hi 4 rfl rfl (by decide) rfl lk147 rfl dX6_distance_14 ?_
      refine lv_bipush (v := 119) hx hb dX6_distance_17 (by decide) ?_
      refine lv_icmp_eq (tgt := 32) hx hb dX6_distance_19 (by decide) (fun c_3 => ?_) (fun c_3 => ?_)
      · exact x_throw (k9 := 3) (ic := 58) hx hb hst hown hE ht hlocks (hl.1.trans hml.symm) (fun _ _ _ => trivial) (by decide) tk3 ti3 tw3 bad3 good3 (by decide) (show (exOf 1 3 0 (t_dist σ (nI i) (nI j))) = 3 from by rw [show (t_dist σ (nI i) (nI j)) = 2 from (by simp only [tD, tL, tV, tO, tW, tLV, tN, t_needs, t_plannedAt, t_shadeOf, t_dist, t_near, t_cell, t_byLight, t_dues, t_share, t_mean, okW, eti, etj]; (repeat' split) <;> first | rfl | contradiction | (exfalso; simp_all [-Int32.not_lt, -Int32.not_le]; done))]; rfl) dX6_distance_32 dX6_distance_35 dX6_distance_36 dX6_distance_39 (Nat.le_of_ble_eq_true rfl) (Nat.le_of_ble_eq_true rfl) (Nat.le_of_ble_eq_true rfl) (Nat.le_of_ble_eq_true rfl) (Nat.le_of_ble_eq_true rfl) (Nat.le_of_ble_eq_true rfl)
      · refine lv_aload hx hb dX6_distance_22 (lv_at hl 0 rfl) ?_
        refine x_get (K := 16) (i := j) (v := .int (σ 21 j)) hx hb hts hinX0 hown hK hX hj 4 rfl rfl (by decide) rfl lk147 rfl dX6_distance_24 ?_
        refine lv_bipush (v := 119) hx hb dX6_distance_27 (by decide) ?_
        refine lv_icmp_ne (tgt := 40) hx hb dX6_distance_29 (by decide) (fun c_4 => ?_) (fun c_4 => ?_)
        · refine lv_aload_n hx hb dX6_distance_40 rfl (lv_at hl 1 rfl) ?_
          refine x_get (K := 16) (i := i) (v := .ref (ad 17 i)) hx hb hts hinX0 hown hK hX hi 3 rfl rfl (by decide) rfl lk140 rfl dX6_distance_41 ?_
          refine lv_aload hx hb dX6_distance_44 (lv_at hl 0 rfl) ?_
          refine x_get (K := 16) (i := j) (v := .ref (ad 17 j)) hx hb hts hinX0 hown hK hX hj 3 rfl rfl (by decide) rfl lk140 rfl dX6_distance_46 ?_
          refine xc_ro (n := 1) (K := 17) (i := i) (As := [.ref (ad 17 j)]) (rest := []) (v := [.int (f_apart σ (nI i) (nI j))]) ⟨hx, hb, hml, hown, hts⟩ hK hX hi rfl rfl (qX4_distanceTo la g ad σ u τ 17 i 17 j (σ 16 (3 * i)) (σ 16 (3 * i + 1)) (σ 16 (3 * i + 2)) (σ 16 (3 * j)) (σ 16 (3 * j + 1)) (σ 16 (3 * j + 2)) hi hj (fun _ => rfl) (fun _ => rfl) (hI.2.2.2.2.2.2.2.2.2.2.1 _) (hI.2.2.2.2.2.2.2.2.2.2.1 _) (hI.2.2.2.2.2.2.2.2.2.2.1 _) (hI.2.2.2.2.2.2.2.2.2.2.1 _) (hI.2.2.2.2.2.2.2.2.2.2.1 _) (hI.2.2.2.2.2.2.2.2.2.2.1 _)) gX6_distance_X4_distanceTo rfl rfl rfl (by decide +kernel) ⟨Nat.le_of_ble_eq_true rfl, Nat.le_of_ble_eq_true rfl⟩ rfl hl.1 rfl (Nat.le_of_ble_eq_true rfl) dX6_distance_49 ⟨Nat.le_of_ble_eq_true rfl, Nat.le_of_ble_eq_true rfl⟩ (congrArg (fun z => [Value.int z]) (apartNI (by omega) (by omega)).symm) ?_
          refine vx_ret ?_
          refine W.widen (k := 3) (n := 18) (Nat.le_of_ble_eq_true rfl) (Nat.le_of_ble_eq_true rfl) ?_
          exact W.iret (v := (f_apart σ (nI i) (nI j))) hx hb hr (fun t ht9 hW => ⟨(show (exOf 1 3 0 (t_dist σ (nI i) (nI j))) = 0 from by rw [show (t_dist σ (nI i) (nI j)) = 0 from (by simp only [tD, tL, tV, tO, tW, tLV, tN, t_needs, t_plannedAt, t_shadeOf, t_dist, t_near, t_cell, t_byLight, t_dues, t_share, t_mean, okW, eti, etj]; (repeat' split) <;> first | rfl | contradiction | (exfalso; simp_all [-Int32.not_lt, -Int32.not_le]; done))]; rfl), congrArg (fun z => Outcome.returned (some (Value.int z))) (by first | rfl | (simp [-Int32.not_lt, -Int32.not_le, okL, okV, okO, okR, okD, isP, shP, eti, kl9, etj, kb9, h_1, h_2, c_3, c_4]; done) | (simp_all [-Int32.not_lt, -Int32.not_le, okL, okV, okO, okR, okD, isP, shP]; done)), ht9⟩) (fun _ h => nomatch h) dX6_distance_52
        · exact x_throw (k9 := 3) (ic := 58) hx hb hst hown hE ht hlocks (hl.1.trans hml.symm) (fun _ _ _ => trivial) (by decide) tk3 ti3 tw3 bad3 good3 (by decide) (show (exOf 1 3 0 (t_dist σ (nI i) (nI j))) = 3 from by rw [show (t_dist σ (nI i) (nI j)) = 2 from (by simp only [tD, tL, tV, tO, tW, tLV, tN, t_needs, t_plannedAt, t_shadeOf, t_dist, t_near, t_cell, t_byLight, t_dues, t_share, t_mean, okW, eti, etj]; (repeat' split) <;> first | rfl | contradiction | (exfalso; simp_all [-Int32.not_lt, -Int32.not_le]; done))]; rfl) dX6_distance_32 dX6_distance_35 dX6_distance_36 dX6_distance_39 (Nat.le_of_ble_eq_true rfl) (Nat.le_of_ble_eq_true rfl) (Nat.le_of_ble_eq_true rfl) (Nat.le_of_ble_eq_true rfl) (Nat.le_of_ble_eq_true rfl) (Nat.le_of_ble_eq_true rfl)
    · refine lv_aload_n hx hb dX6_distance_0 rfl (lv_at hl 0 rfl) ?_
      refine lv_iload_n hx hb dX6_distance_1 rfl (lv_at hl 1 rfl) ?_
      refine xc_v (n := 1) (As := [.int (nI i)]) (rest := []) (v := [.ref (ad 16 i)]) ⟨hx, hb, hml, hown, hts⟩ hE hX ht hlocks (fun q => absurd (show eL σ (nI i) = 0 from if_pos kl9) q) (qX6_lotNumbered la hst g lo ad σ u τ hI (nI i)) gX6_distance_X6_lotNumbered rfl rfl rfl (by decide +kernel) ⟨Nat.le_of_ble_eq_true rfl, Nat.le_of_ble_eq_true rfl⟩ rfl hl.1 rfl (Nat.le_of_ble_eq_true rfl) dX6_distance_2 ⟨Nat.le_of_ble_eq_true rfl, Nat.le_of_ble_eq_true rfl⟩ ⟨Nat.le_of_ble_eq_true rfl, Nat.le_of_ble_eq_true rfl⟩ (fun _ => congrArg (fun z => [Value.ref (ad 16 z)]) (ti_nI (by omega))) (fun h_6 => ?_)
      refine lv_astore_n (lv' := [(3, .ref (ad 16 i)), (0, .ref (ad 0 0)), (1, .int (nI i)), (2, .int b)]) hx hb dX6_distance_5 rfl hl (by decide) rfl (fun ls hl => ?_)
      refine lv_aload_n hx hb dX6_distance_6 rfl (lv_at hl 1 rfl) ?_
      refine lv_iload_n hx hb dX6_distance_7 rfl (lv_at hl 3 rfl) ?_
      refine xc_v (n := 1) (As := [.int b]) (rest := []) (v := [.ref (ad 16 (ti b))]) ⟨hx, hb, hml, hown, hts⟩ hE hX ht hlocks (fun _ => ((show (exOf 1 3 0 (t_dist σ (nI i) b)) = 1 from by rw [show (t_dist σ (nI i) b) = 1 from (by simp only [tD, tL, tV, tO, tW, tLV, tN, t_needs, t_plannedAt, t_shadeOf, t_dist, t_near, t_cell, t_byLight, t_dues, t_share, t_mean, okW, eti]; (repeat' split) <;> first | rfl | contradiction | (exfalso; simp_all [-Int32.not_lt, -Int32.not_le]; done))]; rfl)).trans (show eL σ b = 1 from if_neg kb9).symm) (qX6_lotNumbered la hst g lo ad σ u τ hI b) gX6_distance_X6_lotNumbered rfl rfl rfl (by decide +kernel) ⟨Nat.le_of_ble_eq_true rfl, Nat.le_of_ble_eq_true rfl⟩ rfl hl.1 rfl (Nat.le_of_ble_eq_true rfl) dX6_distance_8 ⟨Nat.le_of_ble_eq_true rfl, Nat.le_of_ble_eq_true rfl⟩ ⟨Nat.le_of_ble_eq_true rfl, Nat.le_of_ble_eq_true rfl⟩ (fun _ => rfl) (fun h_7 => ?_)
      exact absurd h_7 (by rw [show eL σ b = 1 from if_neg kb9]; decide)
  · refine lv_aload_n hx hb dX6_distance_0 rfl (lv_at hl 0 rfl) ?_
    refine lv_iload_n hx hb dX6_distance_1 rfl (lv_at hl 1 rfl) ?_
    refine xc_v (n := 1) (As := [.int l]) (rest := []) (v := [.ref (ad 16 (ti l))]) ⟨hx, hb, hml, hown, hts⟩ hE hX ht hlocks (fun _ => ((show (exOf 1 3 0 (t_dist σ l b)) = 1 from by rw [show (t_dist σ l b) = 1 from (by simp only [tD, tL, tV, tO, tW, tLV, tN, t_needs, t_plannedAt, t_shadeOf, t_dist, t_near, t_cell, t_byLight, t_dues, t_share, t_mean, okW]; (repeat' split) <;> first | rfl | contradiction | (exfalso; simp_all [-Int32.not_lt, -Int32.not_le]; done))]; rfl)).trans (show eL σ l = 1 from if_neg kl9).symm) (qX6_lotNumbered la hst g lo ad σ u τ hI l) gX6_distance_X6_lotNumbered rfl rfl rfl (by decide +kernel) ⟨Nat.le_of_ble_eq_true rfl, Nat.le_of_ble_eq_true rfl⟩ rfl hl.1 rfl (Nat.le_of_ble_eq_true rfl) dX6_distance_2 ⟨Nat.le_of_ble_eq_true rfl, Nat.le_of_ble_eq_true rfl⟩ ⟨Nat.le_of_ble_eq_true rfl, Nat.le_of_ble_eq_true rfl⟩ (fun _ => rfl) (fun h_9 => ?_)
    exact absurd h_9 (by rw [show eL σ l = 1 from if_neg kl9]; decide)
