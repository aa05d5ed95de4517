set_option maxHeartbeats 4000000 in
set_option maxRecDepth 100000 in
theorem k_isNot (la : Launch) (g : EG) (lo : Nat) (ma : Nat → Nat) (hA : MA lo ma) (σ : Sg) (u : Nat → Int64) (l is : Int32) (hI : INV σ) : Met la yX7_isNot wsX7_isNot ({ frames := 2, cells := 0, slots := 0, locals := 43 } : Room) (va_Pc [.ref (ma 0), .int l, .int is] (fun U => MR g ma σ u U.heap ∧ KK g U)) (QM (.returned (some (.int (if ¬ (okL σ l ∧ σ 21 (ti l) = is) then 1 else 0)))) (fun H1 => MR g ma (up σ 0 0 (tN σ l is)) u H1) (mown ma)) 0 0 (fun q => lo ≤ q) := by
  refine Met.ofW (cc := cX7_isNot) (maxL := 3) (ret := (some .boolean)) (by decide) rfl ?_
  intro p e s m args below meth c s₁ B hml hv
  obtain ⟨rfl, hR0, hK⟩ := hv
  have hx := B.exec
  have hb := B.bytes
  have hr := B.returns
  have hts := atoms_spec (ws := wsX7_isNot) B.pre
  have hown : s.vm.findClass RX7 = some m.cls := findClass_of_methodNamed B.named
  have hlocks := B.notSynchronized
  have hM : MS g lo ma σ u s.heap s.heap [] := MS.start hR0
  have hinX7 : ∀ w ∈ wsX70, w ∈ wsX7_isNot := by decide +kernel
  have lk59 := hts (.fieldLink RX7 59 "DyehouseLedgerModel" "state" "[C") (by decide +kernel)
  have lk84 := hts (.fieldLink RX7 84 "DyehouseLedgerModel" "thrown" "I") (by decide +kernel)
  have hl := lv_entry ([.ref (ma 0), .int l, .int is]) (n := 3) (Nat.le_of_ble_eq_true rfl)
  rw [lg_entry_eq]
  generalize (lg_sl ([.ref (ma 0), .int l, .int is]) ++ List.replicate (3 - (lg_sl ([.ref (ma 0), .int l, .int is])).length) Slot.unset).toArray = ls at hl ⊢
  have hl : lv_has ls 3 [(0, .ref (ma 0)), (1, .int l), (2, .int is)] := hl
  refine lv_aload_n hx hb dX7_isNot_0 rfl (lv_at hl 0 rfl) ?_
  refine lv_iload_n hx hb dX7_isNot_1 rfl (lv_at hl 1 rfl) ?_
  refine mc_mu (n := 1) (As := [.int l]) (rest := []) (v := [.int (if ¬ okL σ l then 1 else 0)]) ⟨hx, hb, hml, hown, hts⟩ hK hM (k_noLot la g lo ma hA σ u l ) gX7_isNot_X7_noLot rfl rfl rfl (by decide +kernel) ⟨Nat.le_of_ble_eq_true rfl, Nat.le_of_ble_eq_true rfl⟩ rfl hl.1 rfl (Nat.le_of_ble_eq_true rfl) dX7_isNot_2 ⟨Nat.zero_le _, Nat.zero_le _⟩ rfl (fun H locs hM => ?_)
  refine br_if_eq (c9 := ¬ okL σ l) (tgt := 10) hx hb dX7_isNot_5 (by decide) (fun c_1 => ?_) (fun c_1 => ?_)
  · replace c_1 := Decidable.not_not.mp c_1
    replace hM := hM.cg (congrArg (fun z => up σ 0 0 z) (if_pos c_1))
    have kl := (okL_in hI l).mp c_1
    refine lv_aload_n hx hb dX7_isNot_10 rfl (lv_at hl 0 rfl) ?_
    refine lv_aload_n hx hb dX7_isNot_11 rfl (lv_at hl 0 rfl) ?_
    refine m_get (v := .ref (ma 21)) hx hb hts hinX7 hown hK hM 21 (by decide) lk59 rfl dX7_isNot_12 ?_
    refine lv_iload_n hx hb dX7_isNot_15 rfl (lv_at hl 1 rfl) ?_
    refine m_cald (x := (σ 21 (ti l))) hx hb hK hM (i := l) (lot24 hI kl) rfl dX7_isNot_16 ?_
    refine lv_iload_n hx hb dX7_isNot_17 rfl (lv_at hl 2 rfl) ?_
    refine lv_icmp_ne (tgt := 25) hx hb dX7_isNot_18 (by decide) (fun c_2 => ?_) (fun c_2 => ?_)
    · refine lv_iconst (v := 2) hx hb dX7_isNot_25 (by decide) ?_
      refine m_put hx hb hA hts hinX7 hown hK hM 0 (by decide) lk84 dX7_isNot_26 (fun H locs hM => ?_)
      replace hM := hM.cg (up_up σ 0 0 0 2)
      refine lv_aload_n hx hb dX7_isNot_29 rfl (lv_at hl 0 rfl) ?_
      refine m_get (v := .int 2) hx hb hts hinX7 hown hK hM 0 (by decide) lk84 rfl dX7_isNot_30 ?_
      refine lv_if_eq (tgt := 40) hx hb dX7_isNot_33 (by decide) (fun c_3 => ?_) (fun c_3 => ?_)
      · exact absurd c_3 (by decide)
      · refine lv_iconst (v := 1) hx hb dX7_isNot_36 (by decide) ?_
        refine lv_goto (tgt := 41) hx hb dX7_isNot_37 (by decide) ?_
        exact W.zret (v := 1) hx hb hr rfl (fun t ht hW => ⟨congrArg (fun z => Outcome.returned (some (Value.int z))) (by first | rfl | (simp [-Int32.not_lt, -Int32.not_le, okL, okV, okO, okR, okD, isP, shP, tN, tL, tV, tO, tD, tLV, c_1, c_2, c_3]; done) | (simp_all [-Int32.not_lt, -Int32.not_le, okL, okV, okO, okR, okD, isP, shP, tN, tL, tV, tO, tD, tLV]; done)), by rw [ht]; exact (hM.cg (by first | rfl | (simp [-Int32.not_lt, -Int32.not_le, okL, okV, okO, okR, okD, isP, shP, tN, tL, tV, tO, tD, tLV, c_1, c_2, c_3, up_id]; done) | (simp_all [-Int32.not_lt, -Int32.not_le, okL, okV, okO, okR, okD, isP, shP, tN, tL, tV, tO, tD, tLV, up_id]; done))).1, by rw [ht]; exact hM.2.1, fun q hq => by rw [ht]; exact hM.2.2.1 q hq⟩) hM.2.2.2 dX7_isNot_41
    · refine lv_iconst (v := 0) hx hb dX7_isNot_21 (by decide) ?_
      refine lv_goto (tgt := 26) hx hb dX7_isNot_22 (by decide) ?_
      refine m_put hx hb hA hts hinX7 hown hK hM 0 (by decide) lk84 dX7_isNot_26 (fun H locs hM => ?_)
      replace hM := hM.cg (up_up σ 0 0 0 0)
      refine lv_aload_n hx hb dX7_isNot_29 rfl (lv_at hl 0 rfl) ?_
      refine m_get (v := .int 0) hx hb hts hinX7 hown hK hM 0 (by decide) lk84 rfl dX7_isNot_30 ?_
      refine lv_if_eq (tgt := 40) hx hb dX7_isNot_33 (by decide) (fun c_4 => ?_) (fun c_4 => ?_)
      · refine lv_iconst (v := 0) hx hb dX7_isNot_40 (by decide) ?_
        exact W.zret (v := 0) hx hb hr rfl (fun t ht hW => ⟨congrArg (fun z => Outcome.returned (some (Value.int z))) (by first | rfl | (simp [-Int32.not_lt, -Int32.not_le, okL, okV, okO, okR, okD, isP, shP, tN, tL, tV, tO, tD, tLV, c_1, c_2, c_4]; done) | (simp_all [-Int32.not_lt, -Int32.not_le, okL, okV, okO, okR, okD, isP, shP, tN, tL, tV, tO, tD, tLV]; done)), by rw [ht]; exact (hM.cg (by first | rfl | (simp [-Int32.not_lt, -Int32.not_le, okL, okV, okO, okR, okD, isP, shP, tN, tL, tV, tO, tD, tLV, c_1, c_2, c_4, up_id]; done) | (simp_all [-Int32.not_lt, -Int32.not_le, okL, okV, okO, okR, okD, isP, shP, tN, tL, tV, tO, tD, tLV, up_id]; done))).1, by rw [ht]; exact hM.2.1, fun q hq => by rw [ht]; exact hM.2.2.1 q hq⟩) hM.2.2.2 dX7_isNot_41
      · exact absurd c_4 (by decide)
  · replace hM := hM.cg (congrArg (fun z => up σ 0 0 z) (if_neg c_1))
    refine lv_iconst (v := 1) hx hb dX7_isNot_8 (by decide) ?_
    exact W.zret (v := 1) hx hb hr rfl (fun t ht hW => ⟨congrArg (fun z => Outcome.returned (some (Value.int z))) (by first | rfl | (simp [-Int32.not_lt, -Int32.not_le, okL, okV, okO, okR, okD, isP, shP, tN, tL, tV, tO, tD, tLV, c_1]; done) | (simp_all [-Int32.not_lt, -Int32.not_le, okL, okV, okO, okR, okD, isP, shP, tN, tL, tV, tO, tD, tLV]; done)), by rw [ht]; exact (hM.cg (by first | rfl | (simp [-Int32.not_lt, -Int32.not_le, okL, okV, okO, okR, okD, isP, shP, tN, tL, tV, tO, tD, tLV, c_1, up_id]; done) | (simp_all [-Int32.not_lt, -Int32.not_le, okL, okV, okO, okR, okD, isP, shP, tN, tL, tV, tO, tD, tLV, up_id]; done))).1, by rw [ht]; exact hM.2.1, fun q hq => by rw [ht]; exact hM.2.2.1 q hq⟩) hM.2.2.2 dX7_isNot_9
set_option maxHeartbeats 4000000 in
set_option maxRecDepth 100000 in
theorem k_isWaiting (la : Launch) (g : EG) (lo : Nat) (ma : Nat → Nat) (hA : MA lo ma) (σ : Sg) (u : Nat → Int64) (l : Int32) (hI : INV σ) : Met la yX7_isWaiting wsX7_isWaiting ({ frames := 2, cells := 0, slots := 0, locals := 43 } : Room) (va_Pc [.ref (ma 0), .int l] (fun U => MR g ma σ u U.heap ∧ KK g U)) (QM (.returned (some (.int (if ¬ (okL σ l ∧ ¬ σ 21 (ti l) = 119) then 1 else 0)))) (fun H1 => MR g ma (up σ 0 0 (tW σ l)) u H1) (mown ma)) 0 0 (fun q => lo ≤ q) := by
  refine Met.ofW (cc := cX7_isWaiting) (maxL := 2) (ret := (some .boolean)) (by decide) rfl ?_
  intro p e s m args below meth c s₁ B hml hv
  obtain ⟨rfl, hR0, hK⟩ := hv
  have hx := B.exec
  have hb := B.bytes
  have hr := B.returns
  have hts := atoms_spec (ws := wsX7_isWaiting) B.pre
  have hown : s.vm.findClass RX7 = some m.cls := findClass_of_methodNamed B.named
  have hlocks := B.notSynchronized
  have hM : MS g lo ma σ u s.heap s.heap [] := MS.start hR0
  have hinX7 : ∀ w ∈ wsX70, w ∈ wsX7_isWaiting := by decide +kernel
  have lk59 := hts (.fieldLink RX7 59 "DyehouseLedgerModel" "state" "[C") (by decide +kernel)
  have lk84 := hts (.fieldLink RX7 84 "DyehouseLedgerModel" "thrown" "I") (by decide +kernel)
  have hl := lv_entry ([.ref (ma 0), .int l]) (n := 2) (Nat.le_of_ble_eq_true rfl)
  rw [lg_entry_eq]
  generalize (lg_sl ([.ref (ma 0), .int l]) ++ List.replicate (2 - (lg_sl ([.ref (ma 0), .int l])).length) Slot.unset).toArray = ls at hl ⊢
  have hl : lv_has ls 2 [(0, .ref (ma 0)), (1, .int l)] := hl
  refine lv_aload_n hx hb dX7_isWaiting_0 rfl (lv_at hl 0 rfl) ?_
  refine lv_iload_n hx hb dX7_isWaiting_1 rfl (lv_at hl 1 rfl) ?_
  refine mc_mu (n := 1) (As := [.int l]) (rest := []) (v := [.int (if ¬ okL σ l then 1 else 0)]) ⟨hx, hb, hml, hown, hts⟩ hK hM (k_noLot la g lo ma hA σ u l ) gX7_isWaiting_X7_noLot rfl rfl rfl (by decide +kernel) ⟨Nat.le_of_ble_eq_true rfl, Nat.le_of_ble_eq_true rfl⟩ rfl hl.1 rfl (Nat.le_of_ble_eq_true rfl) dX7_isWaiting_2 ⟨Nat.zero_le _, Nat.zero_le _⟩ rfl (fun H locs hM => ?_)
  refine br_if_eq (c9 := ¬ okL σ l) (tgt := 10) hx hb dX7_isWaiting_5 (by decide) (fun c_1 => ?_) (fun c_1 => ?_)
  · replace c_1 := Decidable.not_not.mp c_1
    replace hM := hM.cg (congrArg (fun z => up σ 0 0 z) (if_pos c_1))
    have kl := (okL_in hI l).mp c_1
    refine lv_aload_n hx hb dX7_isWaiting_10 rfl (lv_at hl 0 rfl) ?_
    refine lv_aload_n hx hb dX7_isWaiting_11 rfl (lv_at hl 0 rfl) ?_
    refine m_get (v := .ref (ma 21)) hx hb hts hinX7 hown hK hM 21 (by decide) lk59 rfl dX7_isWaiting_12 ?_
    refine lv_iload_n hx hb dX7_isWaiting_15 rfl (lv_at hl 1 rfl) ?_
    refine m_cald (x := (σ 21 (ti l))) hx hb hK hM (i := l) (lot24 hI kl) rfl dX7_isWaiting_16 ?_
    refine lv_bipush (v := 119) hx hb dX7_isWaiting_17 (by decide) ?_
    refine lv_icmp_ne (tgt := 26) hx hb dX7_isWaiting_19 (by decide) (fun c_2 => ?_) (fun c_2 => ?_)
    · refine lv_iconst (v := 0) hx hb dX7_isWaiting_26 (by decide) ?_
      refine m_put hx hb hA hts hinX7 hown hK hM 0 (by decide) lk84 dX7_isWaiting_27 (fun H locs hM => ?_)
      replace hM := hM.cg (up_up σ 0 0 0 0)
      refine lv_aload_n hx hb dX7_isWaiting_30 rfl (lv_at hl 0 rfl) ?_
      refine m_get (v := .int 0) hx hb hts hinX7 hown hK hM 0 (by decide) lk84 rfl dX7_isWaiting_31 ?_
      refine lv_if_eq (tgt := 41) hx hb dX7_isWaiting_34 (by decide) (fun c_3 => ?_) (fun c_3 => ?_)
      · refine lv_iconst (v := 0) hx hb dX7_isWaiting_41 (by decide) ?_
        exact W.zret (v := 0) hx hb hr rfl (fun t ht hW => ⟨congrArg (fun z => Outcome.returned (some (Value.int z))) (by first | rfl | (simp [-Int32.not_lt, -Int32.not_le, okL, okV, okO, okR, okD, isP, shP, tW, tL, tV, tO, tD, tLV, c_1, c_2, c_3]; done) | (simp_all [-Int32.not_lt, -Int32.not_le, okL, okV, okO, okR, okD, isP, shP, tW, tL, tV, tO, tD, tLV]; done)), by rw [ht]; exact (hM.cg (by first | rfl | (simp [-Int32.not_lt, -Int32.not_le, okL, okV, okO, okR, okD, isP, shP, tW, tL, tV, tO, tD, tLV, c_1, c_2, c_3, up_id]; done) | (simp_all [-Int32.not_lt, -Int32.not_le, okL, okV, okO, okR, okD, isP, shP, tW, tL, tV, tO, tD, tLV, up_id]; done))).1, by rw [ht]; exact hM.2.1, fun q hq => by rw [ht]; exact hM.2.2.1 q hq⟩) hM.2.2.2 dX7_isWaiting_42
      · exact absurd c_3 (by decide)
    · refine lv_iconst (v := 2) hx hb dX7_isWaiting_22 (by decide) ?_
      refine lv_goto (tgt := 27) hx hb dX7_isWaiting_23 (by decide) ?_
      refine m_put hx hb hA hts hinX7 hown hK hM 0 (by decide) lk84 dX7_isWaiting_27 (fun H locs hM => ?_)
      replace hM := hM.cg (up_up σ 0 0 0 2)
      refine lv_aload_n hx hb dX7_isWaiting_30 rfl (lv_at hl 0 rfl) ?_
      refine m_get (v := .int 2) hx hb hts hinX7 hown hK hM 0 (by decide) lk84 rfl dX7_isWaiting_31 ?_
      refine lv_if_eq (tgt := 41) hx hb dX7_isWaiting_34 (by decide) (fun c_4 => ?_) (fun c_4 => ?_)
      · exact absurd c_4 (by decide)
      · refine lv_iconst (v := 1) hx hb dX7_isWaiting_37 (by decide) ?_
        refine lv_goto (tgt := 42) hx hb dX7_isWaiting_38 (by decide) ?_
        exact W.zret (v := 1) hx hb hr rfl (fun t ht hW => ⟨congrArg (fun z => Outcome.returned (some (Value.int z))) (by first | rfl | (simp [-Int32.not_lt, -Int32.not_le, okL, okV, okO, okR, okD, isP, shP, tW, tL, tV, tO, tD, tLV, c_1, c_2, c_4]; done) | (simp_all [-Int32.not_lt, -Int32.not_le, okL, okV, okO, okR, okD, isP, shP, tW, tL, tV, tO, tD, tLV]; done)), by rw [ht]; exact (hM.cg (by first | rfl | (simp [-Int32.not_lt, -Int32.not_le, okL, okV, okO, okR, okD, isP, shP, tW, tL, tV, tO, tD, tLV, c_1, c_2, c_4, up_id]; done) | (simp_all [-Int32.not_lt, -Int32.not_le, okL, okV, okO, okR, okD, isP, shP, tW, tL, tV, tO, tD, tLV, up_id]; done))).1, by rw [ht]; exact hM.2.1, fun q hq => by rw [ht]; exact hM.2.2.1 q hq⟩) hM.2.2.2 dX7_isWaiting_42
  · replace hM := hM.cg (congrArg (fun z => up σ 0 0 z) (if_neg c_1))
    refine lv_iconst (v := 1) hx hb dX7_isWaiting_8 (by decide) ?_
    exact W.zret (v := 1) hx hb hr rfl (fun t ht hW => ⟨congrArg (fun z => Outcome.returned (some (Value.int z))) (by first | rfl | (simp [-Int32.not_lt, -Int32.not_le, okL, okV, okO, okR, okD, isP, shP, tW, tL, tV, tO, tD, tLV, c_1]; done) | (simp_all [-Int32.not_lt, -Int32.not_le, okL, okV, okO, okR, okD, isP, shP, tW, tL, tV, tO, tD, tLV]; done)), by rw [ht]; exact (hM.cg (by first | rfl | (simp [-Int32.not_lt, -Int32.not_le, okL, okV, okO, okR, okD, isP, shP, tW, tL, tV, tO, tD, tLV, c_1, up_id]; done) | (simp_all [-Int32.not_lt, -Int32.not_le, okL, okV, okO, okR, okD, isP, shP, tW, tL, tV, tO, tD, tLV, up_id]; done))).1, by rw [ht]; exact hM.2.1, fun q hq => by rw [ht]; exact hM.2.2.1 q hq⟩) hM.2.2.2 dX7_isWaiting_9
set_option maxHeartbeats 4000000 in
set_option maxRecDepth 100000 in
theorem k_stock (la : Launch) (g : EG) (lo : Nat) (ma : Nat → Nat) (hA : MA lo ma) (σ : Sg) (u : Nat → Int64) (d : Int32) (hI : INV σ) : Met la yX7_stock wsX7_stock ({ frames := 2, cells := 0, slots := 0, locals := 43 } : Room) (va_Pc [.ref (ma 0), .int d] (fun U => MR g ma σ u U.heap ∧ KK g U)) (QM (.returned (some (.int (if okD d then σ 7 (ti d) else 0)))) (fun H1 => MR g ma (up σ 0 0 (tD d)) u H1) (mown ma)) 0 0 (fun q => lo ≤ q) := by
  refine Met.ofW (cc := cX7_stock) (maxL := 2) (ret := (some .int)) (by decide) rfl ?_
  intro p e s m args below meth c s₁ B hml hv
  obtain ⟨rfl, hR0, hK⟩ := hv
  have hx := B.exec
  have hb := B.bytes
  have hr := B.returns
  have hts := atoms_spec (ws := wsX7_stock) B.pre
  have hown : s.vm.findClass RX7 = some m.cls := findClass_of_methodNamed B.named
  have hlocks := B.notSynchronized
  have hM : MS g lo ma σ u s.heap s.heap [] := MS.start hR0
  have hinX7 : ∀ w ∈ wsX70, w ∈ wsX7_stock := by decide +kernel
  have lk16 := hts (.fieldLink RX7 16 "DyehouseLedgerModel" "stock" "[I") (by decide +kernel)
  have hl := lv_entry ([.ref (ma 0), .int d]) (n := 2) (Nat.le_of_ble_eq_true rfl)
  rw [lg_entry_eq]
  generalize (lg_sl ([.ref (ma 0), .int d]) ++ List.replicate (2 - (lg_sl ([.ref (ma 0), .int d])).length) Slot.unset).toArray = ls at hl ⊢
  have hl : lv_has ls 2 [(0, .ref (ma 0)), (1, .int d)] := hl
  refine lv_aload_n hx hb dX7_stock_0 rfl (lv_at hl 0 rfl) ?_
  refine lv_iload_n hx hb dX7_stock_1 rfl (lv_at hl 1 rfl) ?_
  refine mc_mu (n := 1) (As := [.int d]) (rest := []) (v := [.int (if ¬ okD d then 1 else 0)]) ⟨hx, hb, hml, hown, hts⟩ hK hM (k_noDye la g lo ma hA σ u d ) gX7_stock_X7_noDye rfl rfl rfl (by decide +kernel) ⟨Nat.le_of_ble_eq_true rfl, Nat.le_of_ble_eq_true rfl⟩ rfl hl.1 rfl (Nat.le_of_ble_eq_true rfl) dX7_stock_2 ⟨Nat.zero_le _, Nat.zero_le _⟩ rfl (fun H locs hM => ?_)
  refine br_if_eq (c9 := ¬ okD d) (tgt := 12) hx hb dX7_stock_5 (by decide) (fun c_1 => ?_) (fun c_1 => ?_)
  · replace c_1 := Decidable.not_not.mp c_1
    replace hM := hM.cg (congrArg (fun z => up σ 0 0 z) (if_pos c_1))
    have kd := (okD_in d).mp c_1
    refine lv_aload_n hx hb dX7_stock_12 rfl (lv_at hl 0 rfl) ?_
    refine m_get (v := .ref (ma 7)) hx hb hts hinX7 hown hK hM 7 (by decide) lk16 rfl dX7_stock_13 ?_
    refine lv_iload_n hx hb dX7_stock_16 rfl (lv_at hl 1 rfl) ?_
    refine m_iald (x := (σ 7 (ti d))) hx hb hK hM 7 (by decide) rfl (i := d) (n := 3) kd rfl dX7_stock_17 ?_
    exact W.iret (v := (σ 7 (ti d))) hx hb hr (fun t ht hW => ⟨congrArg (fun z => Outcome.returned (some (Value.int z))) (by first | rfl | (simp [-Int32.not_lt, -Int32.not_le, okL, okV, okO, okR, okD, isP, shP, tL, tV, tO, tD, tLV, c_1]; done) | (simp_all [-Int32.not_lt, -Int32.not_le, okL, okV, okO, okR, okD, isP, shP, tL, tV, tO, tD, tLV]; done)), by rw [ht]; exact (hM.cg (by first | rfl | (simp [-Int32.not_lt, -Int32.not_le, okL, okV, okO, okR, okD, isP, shP, tL, tV, tO, tD, tLV, c_1, up_id]; done) | (simp_all [-Int32.not_lt, -Int32.not_le, okL, okV, okO, okR, okD, isP, shP, tL, tV, tO, tD, tLV, up_id]; done))).1, by rw [ht]; exact hM.2.1, fun q hq => by rw [ht]; exact hM.2.2.1 q hq⟩) hM.2.2.2 dX7_stock_18
  · replace hM := hM.cg (congrArg (fun z => up σ 0 0 z) (if_neg c_1))
    refine lv_iconst (v := 0) hx hb dX7_stock_8 (by decide) ?_
    refine lv_goto (tgt := 18) hx hb dX7_stock_9 (by decide) ?_
    exact W.iret (v := 0) hx hb hr (fun t ht hW => ⟨congrArg (fun z => Outcome.returned (some (Value.int z))) (by first | rfl | (simp [-Int32.not_lt, -Int32.not_le, okL, okV, okO, okR, okD, isP, shP, tL, tV, tO, tD, tLV, c_1]; done) | (simp_all [-Int32.not_lt, -Int32.not_le, okL, okV, okO, okR, okD, isP, shP, tL, tV, tO, tD, tLV]; done)), by rw [ht]; exact (hM.cg (by first | rfl | (simp [-Int32.not_lt, -Int32.not_le, okL, okV, okO, okR, okD, isP, shP, tL, tV, tO, tD, tLV, c_1, up_id]; done) | (simp_all [-Int32.not_lt, -Int32.not_le, okL, okV, okO, okR, okD, isP, shP, tL, tV, tO, tD, tLV, up_id]; done))).1, by rw [ht]; exact hM.2.1, fun q hq => by rw [ht]; exact hM.2.2.1 q hq⟩) hM.2.2.2 dX7_stock_18
set_option maxHeartbeats 4000000 in
set_option maxRecDepth 100000 in
theorem k_needs (la : Launch) (g : EG) (lo : Nat) (ma : Nat → Nat) (hA : MA lo ma) (σ : Sg) (u : Nat → Int64) (l d : Int32) (hI : INV σ) : Met la yX7_needs wsX7_needs ({ frames := 2, cells := 0, slots := 0, locals := 43 } : Room) (va_Pc [.ref (ma 0), .int l, .int d] (fun U => MR g ma σ u U.heap ∧ KK g U)) (QM (.returned (some (.int (if okL σ l ∧ okD d then f_needed σ l d else 0)))) (fun H1 => MR g ma (up σ 0 0 (t_needs σ l d)) u H1) (mown ma)) 0 0 (fun q => lo ≤ q) := by
  refine Met.ofW (cc := cX7_needs) (maxL := 3) (ret := (some .int)) (by decide) rfl ?_
  intro p e s m args below meth c s₁ B hml hv
  obtain ⟨rfl, hR0, hK⟩ := hv
  have hx := B.exec
  have hb := B.bytes
  have hr := B.returns
  have hts := atoms_spec (ws := wsX7_needs) B.pre
  have hown : s.vm.findClass RX7 = some m.cls := findClass_of_methodNamed B.named
  have hlocks := B.notSynchronized
  have hM : MS g lo ma σ u s.heap s.heap [] := MS.start hR0
  have hl := lv_entry ([.ref (ma 0), .int l, .int d]) (n := 3) (Nat.le_of_ble_eq_true rfl)
  rw [lg_entry_eq]
  generalize (lg_sl ([.ref (ma 0), .int l, .int d]) ++ List.replicate (3 - (lg_sl ([.ref (ma 0), .int l, .int d])).length) Slot.unset).toArray = ls at hl ⊢
  have hl : lv_has ls 3 [(0, .ref (ma 0)), (1, .int l), (2, .int d)] := hl
  refine lv_aload_n hx hb dX7_needs_0 rfl (lv_at hl 0 rfl) ?_
  refine lv_iload_n hx hb dX7_needs_1 rfl (lv_at hl 1 rfl) ?_
  refine mc_mu (n := 1) (As := [.int l]) (rest := []) (v := [.int (if ¬ okL σ l then 1 else 0)]) ⟨hx, hb, hml, hown, hts⟩ hK hM (k_noLot la g lo ma hA σ u l ) gX7_needs_X7_noLot rfl rfl rfl (by decide +kernel) ⟨Nat.le_of_ble_eq_true rfl, Nat.le_of_ble_eq_true rfl⟩ rfl hl.1 rfl (Nat.le_of_ble_eq_true rfl) dX7_needs_2 ⟨Nat.zero_le _, Nat.zero_le _⟩ rfl (fun H locs hM => ?_)
  refine br_if_eq (c9 := ¬ okL σ l) (tgt := 10) hx hb dX7_needs_5 (by decide) (fun c_1 => ?_) (fun c_1 => ?_)
  · replace c_1 := Decidable.not_not.mp c_1
    replace hM := hM.cg (congrArg (fun z => up σ 0 0 z) (if_pos c_1))
    have kl := (okL_in hI l).mp c_1
    refine lv_iload_n hx hb dX7_needs_10 rfl (lv_at hl 2 rfl) ?_
    refine lv_iconst (v := 0) hx hb dX7_needs_11 (by decide) ?_
    refine lv_iconst (v := 2) hx hb dX7_needs_12 (by decide) ?_
    refine sc_ro (n := 3) (As := [.int d, .int 0, .int 2]) (rest := []) (v := [.int (if isP d 0 2 then 1 else 0)]) ⟨hx, hb, hml, hown, hts⟩ (k_isIn la d 0 2) gX7_needs_X7_isIn rfl rfl rfl (by decide +kernel) ⟨Nat.le_of_ble_eq_true rfl, Nat.le_of_ble_eq_true rfl⟩ rfl hl.1 rfl (Nat.le_of_ble_eq_true rfl) dX7_needs_13 ⟨Nat.zero_le _, Nat.zero_le _⟩ rfl ?_
    refine br_if_ne (c9 := isP d 0 2) (tgt := 25) hx hb dX7_needs_16 (by decide) (fun c_2 => ?_) (fun c_2 => ?_)
    · have kd := (okD_in d).mp c_2
      refine lv_aload_n hx hb dX7_needs_25 rfl (lv_at hl 0 rfl) ?_
      refine lv_iload_n hx hb dX7_needs_26 rfl (lv_at hl 1 rfl) ?_
      refine lv_iload_n hx hb dX7_needs_27 rfl (lv_at hl 2 rfl) ?_
      refine mc_ro (n := 2) (As := [.int l, .int d]) (rest := []) (v := [.int (f_needed σ l d)]) ⟨hx, hb, hml, hown, hts⟩ hK hM (k_needed la g ma (up σ 0 0 0) u l d (hI.up0 _) kl kd) gX7_needs_X7_needed rfl rfl rfl (by decide +kernel) ⟨Nat.le_of_ble_eq_true rfl, Nat.le_of_ble_eq_true rfl⟩ rfl hl.1 rfl (Nat.le_of_ble_eq_true rfl) dX7_needs_28 ⟨Nat.zero_le _, Nat.zero_le _⟩ rfl ?_
      exact W.iret (v := (f_needed σ l d)) hx hb hr (fun t ht hW => ⟨congrArg (fun z => Outcome.returned (some (Value.int z))) (by first | rfl | (simp [-Int32.not_lt, -Int32.not_le, okL, okV, okO, okR, okD, isP, shP, t_needs, tL, tV, tO, tD, tLV, c_1, c_2]; done) | (simp_all [-Int32.not_lt, -Int32.not_le, okL, okV, okO, okR, okD, isP, shP, t_needs, tL, tV, tO, tD, tLV]; done)), by rw [ht]; exact (hM.cg (by first | rfl | (simp [-Int32.not_lt, -Int32.not_le, okL, okV, okO, okR, okD, isP, shP, t_needs, tL, tV, tO, tD, tLV, c_1, c_2, up_id]; done) | (simp_all [-Int32.not_lt, -Int32.not_le, okL, okV, okO, okR, okD, isP, shP, t_needs, tL, tV, tO, tD, tLV, up_id]; done))).1, by rw [ht]; exact hM.2.1, fun q hq => by rw [ht]; exact hM.2.2.1 q hq⟩) hM.2.2.2 dX7_needs_31
    · refine lv_aload_n hx hb dX7_needs_19 rfl (lv_at hl 0 rfl) ?_
      refine lv_iconst (v := 2) hx hb dX7_needs_20 (by decide) ?_
      refine mc_mu (n := 1) (As := [.int 2]) (rest := []) (v := [.int 0]) ⟨hx, hb, hml, hown, hts⟩ hK hM (k_refuse la g lo ma hA (up σ 0 0 0) u 2 ) gX7_needs_X7_refuse rfl rfl rfl (by decide +kernel) ⟨Nat.le_of_ble_eq_true rfl, Nat.le_of_ble_eq_true rfl⟩ rfl hl.1 rfl (Nat.le_of_ble_eq_true rfl) dX7_needs_21 ⟨Nat.zero_le _, Nat.zero_le _⟩ rfl (fun H locs hM => ?_)
      replace hM := hM.cg (up_up σ 0 0 0 2)
      exact W.iret (v := 0) hx hb hr (fun t ht hW => ⟨congrArg (fun z => Outcome.returned (some (Value.int z))) (by first | rfl | (simp [-Int32.not_lt, -Int32.not_le, okL, okV, okO, okR, okD, isP, shP, t_needs, tL, tV, tO, tD, tLV, c_1, c_2]; done) | (simp_all [-Int32.not_lt, -Int32.not_le, okL, okV, okO, okR, okD, isP, shP, t_needs, tL, tV, tO, tD, tLV]; done)), by rw [ht]; exact (hM.cg (by first | rfl | (simp [-Int32.not_lt, -Int32.not_le, okL, okV, okO, okR, okD, isP, shP, t_needs, tL, tV, tO, tD, tLV, c_1, c_2, up_id]; done) | (simp_all [-Int32.not_lt, -Int32.not_le, okL, okV, okO, okR, okD, isP, shP, t_needs, tL, tV, tO, tD, tLV, up_id]; done))).1, by rw [ht]; exact hM.2.1, fun q hq => by rw [ht]; exact hM.2.2.1 q hq⟩) hM.2.2.2 dX7_needs_24
  · replace hM := hM.cg (congrArg (fun z => up σ 0 0 z) (if_neg c_1))
    refine lv_iconst (v := 0) hx hb dX7_needs_8 (by decide) ?_
    exact W.iret (v := 0) hx hb hr (fun t ht hW => ⟨congrArg (fun z => Outcome.returned (some (Value.int z))) (by first | rfl | (simp [-Int32.not_lt, -Int32.not_le, okL, okV, okO, okR, okD, isP, shP, t_needs, tL, tV, tO, tD, tLV, c_1]; done) | (simp_all [-Int32.not_lt, -Int32.not_le, okL, okV, okO, okR, okD, isP, shP, t_needs, tL, tV, tO, tD, tLV]; done)), by rw [ht]; exact (hM.cg (by first | rfl | (simp [-Int32.not_lt, -Int32.not_le, okL, okV, okO, okR, okD, isP, shP, t_needs, tL, tV, tO, tD, tLV, c_1, up_id]; done) | (simp_all [-Int32.not_lt, -Int32.not_le, okL, okV, okO, okR, okD, isP, shP, t_needs, tL, tV, tO, tD, tLV, up_id]; done))).1, by rw [ht]; exact hM.2.1, fun q hq => by rw [ht]; exact hM.2.2.1 q hq⟩) hM.2.2.2 dX7_needs_9
set_option maxHeartbeats 4000000 in
set_option maxRecDepth 100000 in
theorem k_hoursFor (la : Launch) (g : EG) (lo : Nat) (ma : Nat → Nat) (hA : MA lo ma) (σ : Sg) (u : Nat → Int64) (l : Int32) (hI : INV σ) : Met la yX7_hoursFor wsX7_hoursFor ({ frames := 2, cells := 0, slots := 0, locals := 43 } : Room) (va_Pc [.ref (ma 0), .int l] (fun U => MR g ma σ u U.heap ∧ KK g U)) (QM (.returned (some (.int (if okL σ l then f_hours σ l else 0)))) (fun H1 => MR g ma (up σ 0 0 (tL σ l)) u H1) (mown ma)) 0 0 (fun q => lo ≤ q) := by
  refine Met.ofW (cc := cX7_hoursFor) (maxL := 2) (ret := (some .int)) (by decide) rfl ?_
  intro p e s m args below meth c s₁ B hml hv
  obtain ⟨rfl, hR0, hK⟩ := hv
  have hx := B.exec
  have hb := B.bytes
  have hr := B.returns
  have hts := atoms_spec (ws := wsX7_hoursFor) B.pre
  have hown : s.vm.findClass RX7 = some m.cls := findClass_of_methodNamed B.named
  have hlocks := B.notSynchronized
  have hM : MS g lo ma σ u s.heap s.heap [] := MS.start hR0
  have hl := lv_entry ([.ref (ma 0), .int l]) (n := 2) (Nat.le_of_ble_eq_true rfl)
  rw [lg_entry_eq]
  generalize (lg_sl ([.ref (ma 0), .int l]) ++ List.replicate (2 - (lg_sl ([.ref (ma 0), .int l])).length) Slot.unset).toArray = ls at hl ⊢
  have hl : lv_has ls 2 [(0, .ref (ma 0)), (1, .int l)] := hl
  refine lv_aload_n hx hb dX7_hoursFor_0 rfl (lv_at hl 0 rfl) ?_
  refine lv_iload_n hx hb dX7_hoursFor_1 rfl (lv_at hl 1 rfl) ?_
  refine mc_mu (n := 1) (As := [.int l]) (rest := []) (v := [.int (if ¬ okL σ l then 1 else 0)]) ⟨hx, hb, hml, hown, hts⟩ hK hM (k_noLot la g lo ma hA σ u l ) gX7_hoursFor_X7_noLot rfl rfl rfl (by decide +kernel) ⟨Nat.le_of_ble_eq_true rfl, Nat.le_of_ble_eq_true rfl⟩ rfl hl.1 rfl (Nat.le_of_ble_eq_true rfl) dX7_hoursFor_2 ⟨Nat.zero_le _, Nat.zero_le _⟩ rfl (fun H locs hM => ?_)
  refine br_if_eq (c9 := ¬ okL σ l) (tgt := 12) hx hb dX7_hoursFor_5 (by decide) (fun c_1 => ?_) (fun c_1 => ?_)
  · replace c_1 := Decidable.not_not.mp c_1
    replace hM := hM.cg (congrArg (fun z => up σ 0 0 z) (if_pos c_1))
    have kl := (okL_in hI l).mp c_1
    refine lv_aload_n hx hb dX7_hoursFor_12 rfl (lv_at hl 0 rfl) ?_
    refine lv_iload_n hx hb dX7_hoursFor_13 rfl (lv_at hl 1 rfl) ?_
    refine mc_ro (n := 1) (As := [.int l]) (rest := []) (v := [.int (f_hours σ l)]) ⟨hx, hb, hml, hown, hts⟩ hK hM (k_hours la g ma (up σ 0 0 0) u l (lot24 hI kl)) gX7_hoursFor_X7_hours rfl rfl rfl (by decide +kernel) ⟨Nat.le_of_ble_eq_true rfl, Nat.le_of_ble_eq_true rfl⟩ rfl hl.1 rfl (Nat.le_of_ble_eq_true rfl) dX7_hoursFor_14 ⟨Nat.zero_le _, Nat.zero_le _⟩ rfl ?_
    exact W.iret (v := (f_hours σ l)) hx hb hr (fun t ht hW => ⟨congrArg (fun z => Outcome.returned (some (Value.int z))) (by first | rfl | (simp [-Int32.not_lt, -Int32.not_le, okL, okV, okO, okR, okD, isP, shP, tL, tV, tO, tD, tLV, c_1]; done) | (simp_all [-Int32.not_lt, -Int32.not_le, okL, okV, okO, okR, okD, isP, shP, tL, tV, tO, tD, tLV]; done)), by rw [ht]; exact (hM.cg (by first | rfl | (simp [-Int32.not_lt, -Int32.not_le, okL, okV, okO, okR, okD, isP, shP, tL, tV, tO, tD, tLV, c_1, up_id]; done) | (simp_all [-Int32.not_lt, -Int32.not_le, okL, okV, okO, okR, okD, isP, shP, tL, tV, tO, tD, tLV, up_id]; done))).1, by rw [ht]; exact hM.2.1, fun q hq => by rw [ht]; exact hM.2.2.1 q hq⟩) hM.2.2.2 dX7_hoursFor_17
  · replace hM := hM.cg (congrArg (fun z => up σ 0 0 z) (if_neg c_1))
    refine lv_iconst (v := 0) hx hb dX7_hoursFor_8 (by decide) ?_
    refine lv_goto (tgt := 17) hx hb dX7_hoursFor_9 (by decide) ?_
    exact W.iret (v := 0) hx hb hr (fun t ht hW => ⟨congrArg (fun z => Outcome.returned (some (Value.int z))) (by first | rfl | (simp [-Int32.not_lt, -Int32.not_le, okL, okV, okO, okR, okD, isP, shP, tL, tV, tO, tD, tLV, c_1]; done) | (simp_all [-Int32.not_lt, -Int32.not_le, okL, okV, okO, okR, okD, isP, shP, tL, tV, tO, tD, tLV]; done)), by rw [ht]; exact (hM.cg (by first | rfl | (simp [-Int32.not_lt, -Int32.not_le, okL, okV, okO, okR, okD, isP, shP, tL, tV, tO, tD, tLV, c_1, up_id]; done) | (simp_all [-Int32.not_lt, -Int32.not_le, okL, okV, okO, okR, okD, isP, shP, tL, tV, tO, tD, tLV, up_id]; done))).1, by rw [ht]; exact hM.2.1, fun q hq => by rw [ht]; exact hM.2.2.1 q hq⟩) hM.2.2.2 dX7_hoursFor_17
set_option maxHeartbeats 4000000 in
set_option maxRecDepth 100000 in
theorem k_reason (la : Launch) (g : EG) (lo : Nat) (ma : Nat → Nat) (hA : MA lo ma) (σ : Sg) (u : Nat → Int64) (l v : Int32) (hI : INV σ) : Met la yX7_reason wsX7_reason ({ frames := 2, cells := 0, slots := 0, locals := 45 } : Room) (va_Pc [.ref (ma 0), .int l, .int v] (fun U => MR g ma σ u U.heap ∧ KK g U)) (QM (.returned (some (.int (if okL σ l ∧ okV σ v then f_why σ l v else 45)))) (fun H1 => MR g ma (up σ 0 0 (tLV σ l v)) u H1) (mown ma)) 0 0 (fun q => lo ≤ q) := by
  refine Met.ofW (cc := cX7_reason) (maxL := 3) (ret := (some .char)) (by decide) rfl ?_
  intro p e s m args below meth c s₁ B hml hv
  obtain ⟨rfl, hR0, hK⟩ := hv
  have hx := B.exec
  have hb := B.bytes
  have hr := B.returns
  have hts := atoms_spec (ws := wsX7_reason) B.pre
  have hown : s.vm.findClass RX7 = some m.cls := findClass_of_methodNamed B.named
  have hlocks := B.notSynchronized
  have hM : MS g lo ma σ u s.heap s.heap [] := MS.start hR0
  have hl := lv_entry ([.ref (ma 0), .int l, .int v]) (n := 3) (Nat.le_of_ble_eq_true rfl)
  rw [lg_entry_eq]
  generalize (lg_sl ([.ref (ma 0), .int l, .int v]) ++ List.replicate (3 - (lg_sl ([.ref (ma 0), .int l, .int v])).length) Slot.unset).toArray = ls at hl ⊢
  have hl : lv_has ls 3 [(0, .ref (ma 0)), (1, .int l), (2, .int v)] := hl
  refine lv_aload_n hx hb dX7_reason_0 rfl (lv_at hl 0 rfl) ?_
  refine lv_iload_n hx hb dX7_reason_1 rfl (lv_at hl 1 rfl) ?_
  refine mc_mu (n := 1) (As := [.int l]) (rest := []) (v := [.int (if ¬ okL σ l then 1 else 0)]) ⟨hx, hb, hml, hown, hts⟩ hK hM (k_noLot la g lo ma hA σ u l ) gX7_reason_X7_noLot rfl rfl rfl (by decide +kernel) ⟨Nat.le_of_ble_eq_true rfl, Nat.le_of_ble_eq_true rfl⟩ rfl hl.1 rfl (Nat.le_of_ble_eq_true rfl) dX7_reason_2 ⟨Nat.zero_le _, Nat.zero_le _⟩ rfl (fun H locs hM => ?_)
  refine br_if_ne (c9 := ¬ okL σ l) (tgt := 16) hx hb dX7_reason_5 (by decide) (fun c_1 => ?_) (fun c_1 => ?_)
  · replace hM := hM.cg (congrArg (fun z => up σ 0 0 z) (if_neg c_1))
    refine lv_bipush (v := 45) hx hb dX7_reason_16 (by decide) ?_
    refine lv_goto (tgt := 27) hx hb dX7_reason_18 (by decide) ?_
    exact W.zret (v := 45) hx hb hr rfl (fun t ht hW => ⟨congrArg (fun z => Outcome.returned (some (Value.int z))) (by first | rfl | (simp [-Int32.not_lt, -Int32.not_le, okL, okV, okO, okR, okD, isP, shP, tL, tV, tO, tD, tLV, c_1]; done) | (simp_all [-Int32.not_lt, -Int32.not_le, okL, okV, okO, okR, okD, isP, shP, tL, tV, tO, tD, tLV]; done)), by rw [ht]; exact (hM.cg (by first | rfl | (simp [-Int32.not_lt, -Int32.not_le, okL, okV, okO, okR, okD, isP, shP, tL, tV, tO, tD, tLV, c_1, up_id]; done) | (simp_all [-Int32.not_lt, -Int32.not_le, okL, okV, okO, okR, okD, isP, shP, tL, tV, tO, tD, tLV, up_id]; done))).1, by rw [ht]; exact hM.2.1, fun q hq => by rw [ht]; exact hM.2.2.1 q hq⟩) hM.2.2.2 dX7_reason_27
  · replace c_1 := Decidable.not_not.mp c_1
    replace hM := hM.cg (congrArg (fun z => up σ 0 0 z) (if_pos c_1))
    have kl := (okL_in hI l).mp c_1
    refine lv_aload_n hx hb dX7_reason_8 rfl (lv_at hl 0 rfl) ?_
    refine lv_iload_n hx hb dX7_reason_9 rfl (lv_at hl 2 rfl) ?_
    refine mc_mu (n := 1) (As := [.int v]) (rest := []) (v := [.int (if ¬ okV σ v then 1 else 0)]) ⟨hx, hb, hml, hown, hts⟩ hK hM (k_noVat la g lo ma hA (up σ 0 0 0) u v ) gX7_reason_X7_noVat rfl rfl rfl (by decide +kernel) ⟨Nat.le_of_ble_eq_true rfl, Nat.le_of_ble_eq_true rfl⟩ rfl hl.1 rfl (Nat.le_of_ble_eq_true rfl) dX7_reason_10 ⟨Nat.zero_le _, Nat.zero_le _⟩ rfl (fun H locs hM => ?_)
    replace hM := hM.cg (up_up σ 0 0 0 (if okV σ v then 0 else 1))
    refine br_if_eq (c9 := ¬ okV σ v) (tgt := 21) hx hb dX7_reason_13 (by decide) (fun c_2 => ?_) (fun c_2 => ?_)
    · replace c_2 := Decidable.not_not.mp c_2
      replace hM := hM.cg (congrArg (fun z => up σ 0 0 z) (if_pos c_2))
      have kv := (okV_in hI v).mp c_2
      refine lv_aload_n hx hb dX7_reason_21 rfl (lv_at hl 0 rfl) ?_
      refine lv_iload_n hx hb dX7_reason_22 rfl (lv_at hl 1 rfl) ?_
      refine lv_iload_n hx hb dX7_reason_23 rfl (lv_at hl 2 rfl) ?_
      refine mc_ro (n := 2) (As := [.int l, .int v]) (rest := []) (v := [.int (f_why σ l v)]) ⟨hx, hb, hml, hown, hts⟩ hK hM (k_why la g ma (up σ 0 0 0) u l v (hI.up0 _) kl kv) gX7_reason_X7_why rfl rfl rfl (by decide +kernel) ⟨Nat.le_of_ble_eq_true rfl, Nat.le_of_ble_eq_true rfl⟩ rfl hl.1 rfl (Nat.le_of_ble_eq_true rfl) dX7_reason_24 ⟨Nat.zero_le _, Nat.zero_le _⟩ rfl ?_
      exact W.zret (v := (f_why σ l v)) hx hb hr (narW (f_why_char _ _ _)) (fun t ht hW => ⟨congrArg (fun z => Outcome.returned (some (Value.int z))) (by first | rfl | (simp [-Int32.not_lt, -Int32.not_le, okL, okV, okO, okR, okD, isP, shP, tL, tV, tO, tD, tLV, c_1, c_2]; done) | (simp_all [-Int32.not_lt, -Int32.not_le, okL, okV, okO, okR, okD, isP, shP, tL, tV, tO, tD, tLV]; done)), by rw [ht]; exact (hM.cg (by first | rfl | (simp [-Int32.not_lt, -Int32.not_le, okL, okV, okO, okR, okD, isP, shP, tL, tV, tO, tD, tLV, c_1, c_2, up_id]; done) | (simp_all [-Int32.not_lt, -Int32.not_le, okL, okV, okO, okR, okD, isP, shP, tL, tV, tO, tD, tLV, up_id]; done))).1, by rw [ht]; exact hM.2.1, fun q hq => by rw [ht]; exact hM.2.2.1 q hq⟩) hM.2.2.2 dX7_reason_27
    · replace hM := hM.cg (congrArg (fun z => up σ 0 0 z) (if_neg c_2))
      refine lv_bipush (v := 45) hx hb dX7_reason_16 (by decide) ?_
      refine lv_goto (tgt := 27) hx hb dX7_reason_18 (by decide) ?_
      exact W.zret (v := 45) hx hb hr rfl (fun t ht hW => ⟨congrArg (fun z => Outcome.returned (some (Value.int z))) (by first | rfl | (simp [-Int32.not_lt, -Int32.not_le, okL, okV, okO, okR, okD, isP, shP, tL, tV, tO, tD, tLV, c_1, c_2]; done) | (simp_all [-Int32.not_lt, -Int32.not_le, okL, okV, okO, okR, okD, isP, shP, tL, tV, tO, tD, tLV]; done)), by rw [ht]; exact (hM.cg (by first | rfl | (simp [-Int32.not_lt, -Int32.not_le, okL, okV, okO, okR, okD, isP, shP, tL, tV, tO, tD, tLV, c_1, c_2, up_id]; done) | (simp_all [-Int32.not_lt, -Int32.not_le, okL, okV, okO, okR, okD, isP, shP, tL, tV, tO, tD, tLV, up_id]; done))).1, by rw [ht]; exact hM.2.1, fun q hq => by rw [ht]; exact hM.2.2.1 q hq⟩) hM.2.2.2 dX7_reason_27
set_option maxHeartbeats 4000000 in
set_option maxRecDepth 100000 in
theorem k_verdict (la : Launch) (g : EG) (lo : Nat) (ma : Nat → Nat) (hA : MA lo ma) (σ : Sg) (u : Nat → Int64) (l : Int32) (hI : INV σ) : Met la yX7_verdict wsX7_verdict ({ frames := 3, cells := 0, slots := 0, locals := 65 } : Room) (va_Pc [.ref (ma 0), .int l] (fun U => MR g ma σ u U.heap ∧ KK g U)) (QM (.returned (some (.int (if okL σ l ∧ σ 21 (ti l) = 100 then f_judged σ l else 102)))) (fun H1 => MR g ma (up σ 0 0 (tN σ l 100)) u H1) (mown ma)) 0 0 (fun q => lo ≤ q) := by
  refine Met.ofW (cc := cX7_verdict) (maxL := 2) (ret := (some .char)) (by decide) rfl ?_
  intro p e s m args below meth c s₁ B hml hv
  obtain ⟨rfl, hR0, hK⟩ := hv
  have hx := B.exec
  have hb := B.bytes
  have hr := B.returns
  have hts := atoms_spec (ws := wsX7_verdict) B.pre
  have hown : s.vm.findClass RX7 = some m.cls := findClass_of_methodNamed B.named
  have hlocks := B.notSynchronized
  have hM : MS g lo ma σ u s.heap s.heap [] := MS.start hR0
  have hl := lv_entry ([.ref (ma 0), .int l]) (n := 2) (Nat.le_of_ble_eq_true rfl)
  rw [lg_entry_eq]
  generalize (lg_sl ([.ref (ma 0), .int l]) ++ List.replicate (2 - (lg_sl ([.ref (ma 0), .int l])).length) Slot.unset).toArray = ls at hl ⊢
  have hl : lv_has ls 2 [(0, .ref (ma 0)), (1, .int l)] := hl
  refine lv_aload_n hx hb dX7_verdict_0 rfl (lv_at hl 0 rfl) ?_
  refine lv_iload_n hx hb dX7_verdict_1 rfl (lv_at hl 1 rfl) ?_
  refine lv_bipush (v := 100) hx hb dX7_verdict_2 (by decide) ?_
  refine mc_mu (n := 2) (As := [.int l, .int 100]) (rest := []) (v := [.int (if ¬ (okL σ l ∧ σ 21 (ti l) = 100) then 1 else 0)]) ⟨hx, hb, hml, hown, hts⟩ hK hM (k_isNot la g lo ma hA σ u l 100 hI) gX7_verdict_X7_isNot rfl rfl rfl (by decide +kernel) ⟨Nat.le_of_ble_eq_true rfl, Nat.le_of_ble_eq_true rfl⟩ rfl hl.1 rfl (Nat.le_of_ble_eq_true rfl) dX7_verdict_4 ⟨Nat.zero_le _, Nat.zero_le _⟩ rfl (fun H locs hM => ?_)
  refine br_if_eq (c9 := ¬ (okL σ l ∧ σ 21 (ti l) = 100)) (tgt := 15) hx hb dX7_verdict_7 (by decide) (fun c_1 => ?_) (fun c_1 => ?_)
  · replace c_1 := Decidable.not_not.mp c_1
    replace hM := hM.cg (congrArg (fun z => up σ 0 0 z) (tN_ok c_1))
    have kl := (okL_in hI l).mp c_1.1
    refine lv_aload_n hx hb dX7_verdict_15 rfl (lv_at hl 0 rfl) ?_
    refine lv_iload_n hx hb dX7_verdict_16 rfl (lv_at hl 1 rfl) ?_
    refine mc_ro (n := 1) (As := [.int l]) (rest := []) (v := [.int (f_judged σ l)]) ⟨hx, hb, hml, hown, hts⟩ hK hM (k_judged la g ma (up σ 0 0 0) u l (hI.up0 _) kl) gX7_verdict_X7_judged rfl rfl rfl (by decide +kernel) ⟨Nat.le_of_ble_eq_true rfl, Nat.le_of_ble_eq_true rfl⟩ rfl hl.1 rfl (Nat.le_of_ble_eq_true rfl) dX7_verdict_17 ⟨Nat.zero_le _, Nat.zero_le _⟩ rfl ?_
    exact W.zret (v := (f_judged σ l)) hx hb hr (narW (f_judged_char _ _)) (fun t ht hW => ⟨congrArg (fun z => Outcome.returned (some (Value.int z))) (by first | rfl | (simp [-Int32.not_lt, -Int32.not_le, okL, okV, okO, okR, okD, isP, shP, tN, tL, tV, tO, tD, tLV, c_1]; done) | (simp_all [-Int32.not_lt, -Int32.not_le, okL, okV, okO, okR, okD, isP, shP, tN, tL, tV, tO, tD, tLV]; done)), by rw [ht]; exact (hM.cg (by first | rfl | (simp [-Int32.not_lt, -Int32.not_le, okL, okV, okO, okR, okD, isP, shP, tN, tL, tV, tO, tD, tLV, c_1, up_id]; done) | (simp_all [-Int32.not_lt, -Int32.not_le, okL, okV, okO, okR, okD, isP, shP, tN, tL, tV, tO, tD, tLV, up_id]; done))).1, by rw [ht]; exact hM.2.1, fun q hq => by rw [ht]; exact hM.2.2.1 q hq⟩) hM.2.2.2 dX7_verdict_20
  · refine lv_bipush (v := 102) hx hb dX7_verdict_10 (by decide) ?_
    refine lv_goto (tgt := 20) hx hb dX7_verdict_12 (by decide) ?_
    exact W.zret (v := 102) hx hb hr rfl (fun t ht hW => ⟨congrArg (fun z => Outcome.returned (some (Value.int z))) (by first | rfl | (simp [-Int32.not_lt, -Int32.not_le, okL, okV, okO, okR, okD, isP, shP, tN, tL, tV, tO, tD, tLV, c_1]; done) | (simp_all [-Int32.not_lt, -Int32.not_le, okL, okV, okO, okR, okD, isP, shP, tN, tL, tV, tO, tD, tLV]; done)), by rw [ht]; exact (hM.cg (by first | rfl | (simp [-Int32.not_lt, -Int32.not_le, okL, okV, okO, okR, okD, isP, shP, tN, tL, tV, tO, tD, tLV, c_1, up_id]; done) | (simp_all [-Int32.not_lt, -Int32.not_le, okL, okV, okO, okR, okD, isP, shP, tN, tL, tV, tO, tD, tLV, up_id]; done))).1, by rw [ht]; exact hM.2.1, fun q hq => by rw [ht]; exact hM.2.2.1 q hq⟩) hM.2.2.2 dX7_verdict_20
set_option maxHeartbeats 4000000 in
set_option maxRecDepth 100000 in
theorem k_planned (la : Launch) (g : EG) (lo : Nat) (ma : Nat → Nat) (hA : MA lo ma) (σ : Sg) (u : Nat → Int64) (v : Int32) (hI : INV σ) : Met la yX7_planned wsX7_planned ({ frames := 2, cells := 0, slots := 0, locals := 43 } : Room) (va_Pc [.ref (ma 0), .int v] (fun U => MR g ma σ u U.heap ∧ KK g U)) (QM (.returned (some (.int (if okV σ v then f_inPlan σ v else 0)))) (fun H1 => MR g ma (up σ 0 0 (tV σ v)) u H1) (mown ma)) 0 0 (fun q => lo ≤ q) := by
  refine Met.ofW (cc := cX7_planned) (maxL := 2) (ret := (some .int)) (by decide) rfl ?_
  intro p e s m args below meth c s₁ B hml hv
  obtain ⟨rfl, hR0, hK⟩ := hv
  have hx := B.exec
  have hb := B.bytes
  have hr := B.returns
  have hts := atoms_spec (ws := wsX7_planned) B.pre
  have hown : s.vm.findClass RX7 = some m.cls := findClass_of_methodNamed B.named
  have hlocks := B.notSynchronized
  have hM : MS g lo ma σ u s.heap s.heap [] := MS.start hR0
  have hl := lv_entry ([.ref (ma 0), .int v]) (n := 2) (Nat.le_of_ble_eq_true rfl)
  rw [lg_entry_eq]
  generalize (lg_sl ([.ref (ma 0), .int v]) ++ List.replicate (2 - (lg_sl ([.ref (ma 0), .int v])).length) Slot.unset).toArray = ls at hl ⊢
  have hl : lv_has ls 2 [(0, .ref (ma 0)), (1, .int v)] := hl
  refine lv_aload_n hx hb dX7_planned_0 rfl (lv_at hl 0 rfl) ?_
  refine lv_iload_n hx hb dX7_planned_1 rfl (lv_at hl 1 rfl) ?_
  refine mc_mu (n := 1) (As := [.int v]) (rest := []) (v := [.int (if ¬ okV σ v then 1 else 0)]) ⟨hx, hb, hml, hown, hts⟩ hK hM (k_noVat la g lo ma hA σ u v ) gX7_planned_X7_noVat rfl rfl rfl (by decide +kernel) ⟨Nat.le_of_ble_eq_true rfl, Nat.le_of_ble_eq_true rfl⟩ rfl hl.1 rfl (Nat.le_of_ble_eq_true rfl) dX7_planned_2 ⟨Nat.zero_le _, Nat.zero_le _⟩ rfl (fun H locs hM => ?_)
  refine br_if_eq (c9 := ¬ okV σ v) (tgt := 12) hx hb dX7_planned_5 (by decide) (fun c_1 => ?_) (fun c_1 => ?_)
  · replace c_1 := Decidable.not_not.mp c_1
    replace hM := hM.cg (congrArg (fun z => up σ 0 0 z) (if_pos c_1))
    have kv := (okV_in hI v).mp c_1
    refine lv_aload_n hx hb dX7_planned_12 rfl (lv_at hl 0 rfl) ?_
    refine lv_iload_n hx hb dX7_planned_13 rfl (lv_at hl 1 rfl) ?_
    refine mc_ro (n := 1) (As := [.int v]) (rest := []) (v := [.int (f_inPlan σ v)]) ⟨hx, hb, hml, hown, hts⟩ hK hM (k_inPlan la g ma (up σ 0 0 0) u v hI.1.2.2.1) gX7_planned_X7_inPlan rfl rfl rfl (by decide +kernel) ⟨Nat.le_of_ble_eq_true rfl, Nat.le_of_ble_eq_true rfl⟩ rfl hl.1 rfl (Nat.le_of_ble_eq_true rfl) dX7_planned_14 ⟨Nat.zero_le _, Nat.zero_le _⟩ rfl ?_
    exact W.iret (v := (f_inPlan σ v)) hx hb hr (fun t ht hW => ⟨congrArg (fun z => Outcome.returned (some (Value.int z))) (by first | rfl | (simp [-Int32.not_lt, -Int32.not_le, okL, okV, okO, okR, okD, isP, shP, tL, tV, tO, tD, tLV, c_1]; done) | (simp_all [-Int32.not_lt, -Int32.not_le, okL, okV, okO, okR, okD, isP, shP, tL, tV, tO, tD, tLV]; done)), by rw [ht]; exact (hM.cg (by first | rfl | (simp [-Int32.not_lt, -Int32.not_le, okL, okV, okO, okR, okD, isP, shP, tL, tV, tO, tD, tLV, c_1, up_id]; done) | (simp_all [-Int32.not_lt, -Int32.not_le, okL, okV, okO, okR, okD, isP, shP, tL, tV, tO, tD, tLV, up_id]; done))).1, by rw [ht]; exact hM.2.1, fun q hq => by rw [ht]; exact hM.2.2.1 q hq⟩) hM.2.2.2 dX7_planned_17
  · replace hM := hM.cg (congrArg (fun z => up σ 0 0 z) (if_neg c_1))
    refine lv_iconst (v := 0) hx hb dX7_planned_8 (by decide) ?_
    refine lv_goto (tgt := 17) hx hb dX7_planned_9 (by decide) ?_
    exact W.iret (v := 0) hx hb hr (fun t ht hW => ⟨congrArg (fun z => Outcome.returned (some (Value.int z))) (by first | rfl | (simp [-Int32.not_lt, -Int32.not_le, okL, okV, okO, okR, okD, isP, shP, tL, tV, tO, tD, tLV, c_1]; done) | (simp_all [-Int32.not_lt, -Int32.not_le, okL, okV, okO, okR, okD, isP, shP, tL, tV, tO, tD, tLV]; done)), by rw [ht]; exact (hM.cg (by first | rfl | (simp [-Int32.not_lt, -Int32.not_le, okL, okV, okO, okR, okD, isP, shP, tL, tV, tO, tD, tLV, c_1, up_id]; done) | (simp_all [-Int32.not_lt, -Int32.not_le, okL, okV, okO, okR, okD, isP, shP, tL, tV, tO, tD, tLV, up_id]; done))).1, by rw [ht]; exact hM.2.1, fun q hq => by rw [ht]; exact hM.2.2.1 q hq⟩) hM.2.2.2 dX7_planned_17
set_option maxHeartbeats 4000000 in
set_option maxRecDepth 100000 in
theorem k_plannedAt (la : Launch) (g : EG) (lo : Nat) (ma : Nat → Nat) (hA : MA lo ma) (σ : Sg) (u : Nat → Int64) (v place : Int32) (hI : INV σ) : Met la yX7_plannedAt wsX7_plannedAt ({ frames := 2, cells := 0, slots := 0, locals := 43 } : Room) (va_Pc [.ref (ma 0), .int v, .int place] (fun U => MR g ma σ u U.heap ∧ KK g U)) (QM (.returned (some (.int (if okV σ v ∧ ¬ f_lotAt σ v place = -1 then f_lotAt σ v place else 0)))) (fun H1 => MR g ma (up σ 0 0 (t_plannedAt σ v place)) u H1) (mown ma)) 0 0 (fun q => lo ≤ q) := by
  refine Met.ofW (cc := cX7_plannedAt) (maxL := 4) (ret := (some .int)) (by decide) rfl ?_
  intro p e s m args below meth c s₁ B hml hv
  obtain ⟨rfl, hR0, hK⟩ := hv
  have hx := B.exec
  have hb := B.bytes
  have hr := B.returns
  have hts := atoms_spec (ws := wsX7_plannedAt) B.pre
  have hown : s.vm.findClass RX7 = some m.cls := findClass_of_methodNamed B.named
  have hlocks := B.notSynchronized
  have hM : MS g lo ma σ u s.heap s.heap [] := MS.start hR0
  have hl := lv_entry ([.ref (ma 0), .int v, .int place]) (n := 4) (Nat.le_of_ble_eq_true rfl)
  rw [lg_entry_eq]
  generalize (lg_sl ([.ref (ma 0), .int v, .int place]) ++ List.replicate (4 - (lg_sl ([.ref (ma 0), .int v, .int place])).length) Slot.unset).toArray = ls at hl ⊢
  have hl : lv_has ls 4 [(0, .ref (ma 0)), (1, .int v), (2, .int place)] := hl
  refine lv_aload_n hx hb dX7_plannedAt_0 rfl (lv_at hl 0 rfl) ?_
  refine lv_iload_n hx hb dX7_plannedAt_1 rfl (lv_at hl 1 rfl) ?_
  refine mc_mu (n := 1) (As := [.int v]) (rest := []) (v := [.int (if ¬ okV σ v then 1 else 0)]) ⟨hx, hb, hml, hown, hts⟩ hK hM (k_noVat la g lo ma hA σ u v ) gX7_plannedAt_X7_noVat rfl rfl rfl (by decide +kernel) ⟨Nat.le_of_ble_eq_true rfl, Nat.le_of_ble_eq_true rfl⟩ rfl hl.1 rfl (Nat.le_of_ble_eq_true rfl) dX7_plannedAt_2 ⟨Nat.zero_le _, Nat.zero_le _⟩ rfl (fun H locs hM => ?_)
  refine br_if_eq (c9 := ¬ okV σ v) (tgt := 10) hx hb dX7_plannedAt_5 (by decide) (fun c_1 => ?_) (fun c_1 => ?_)
  · replace c_1 := Decidable.not_not.mp c_1
    replace hM := hM.cg (congrArg (fun z => up σ 0 0 z) (if_pos c_1))
    have kv := (okV_in hI v).mp c_1
    refine lv_aload_n hx hb dX7_plannedAt_10 rfl (lv_at hl 0 rfl) ?_
    refine lv_iload_n hx hb dX7_plannedAt_11 rfl (lv_at hl 1 rfl) ?_
    refine lv_iload_n hx hb dX7_plannedAt_12 rfl (lv_at hl 2 rfl) ?_
    refine mc_ro (n := 2) (As := [.int v, .int place]) (rest := []) (v := [.int (f_lotAt σ v place)]) ⟨hx, hb, hml, hown, hts⟩ hK hM (k_lotAt la g ma (up σ 0 0 0) u v place hI.1.2.2.1) gX7_plannedAt_X7_lotAt rfl rfl rfl (by decide +kernel) ⟨Nat.le_of_ble_eq_true rfl, Nat.le_of_ble_eq_true rfl⟩ rfl hl.1 rfl (Nat.le_of_ble_eq_true rfl) dX7_plannedAt_13 ⟨Nat.zero_le _, Nat.zero_le _⟩ (congrArg (fun z => [Value.int z]) (lotAt_up _ _ _ _)) ?_
    refine lv_istore_n (lv' := [(3, .int (f_lotAt σ v place)), (0, .ref (ma 0)), (1, .int v), (2, .int place)]) hx hb dX7_plannedAt_16 rfl hl (by decide) rfl (fun ls hl => ?_)
    refine lv_iload_n hx hb dX7_plannedAt_17 rfl (lv_at hl 0 rfl) ?_
    refine lv_iconst (v := (-1)) hx hb dX7_plannedAt_18 (by decide) ?_
    refine lv_icmp_ne (tgt := 28) hx hb dX7_plannedAt_19 (by decide) (fun c_2 => ?_) (fun c_2 => ?_)
    · refine lv_iload_n hx hb dX7_plannedAt_28 rfl (lv_at hl 0 rfl) ?_
      exact W.iret (v := (f_lotAt σ v place)) hx hb hr (fun t ht hW => ⟨congrArg (fun z => Outcome.returned (some (Value.int z))) (by first | rfl | (simp [-Int32.not_lt, -Int32.not_le, okL, okV, okO, okR, okD, isP, shP, t_plannedAt, tL, tV, tO, tD, tLV, c_1, c_2]; done) | (simp_all [-Int32.not_lt, -Int32.not_le, okL, okV, okO, okR, okD, isP, shP, t_plannedAt, tL, tV, tO, tD, tLV]; done)), by rw [ht]; exact (hM.cg (by first | rfl | (simp [-Int32.not_lt, -Int32.not_le, okL, okV, okO, okR, okD, isP, shP, t_plannedAt, tL, tV, tO, tD, tLV, c_1, c_2, up_id]; done) | (simp_all [-Int32.not_lt, -Int32.not_le, okL, okV, okO, okR, okD, isP, shP, t_plannedAt, tL, tV, tO, tD, tLV, up_id]; done))).1, by rw [ht]; exact hM.2.1, fun q hq => by rw [ht]; exact hM.2.2.1 q hq⟩) hM.2.2.2 dX7_plannedAt_29
    · refine lv_aload_n hx hb dX7_plannedAt_22 rfl (lv_at hl 1 rfl) ?_
      refine lv_iconst (v := 2) hx hb dX7_plannedAt_23 (by decide) ?_
      refine mc_mu (n := 1) (As := [.int 2]) (rest := []) (v := [.int 0]) ⟨hx, hb, hml, hown, hts⟩ hK hM (k_refuse la g lo ma hA (up σ 0 0 0) u 2 ) gX7_plannedAt_X7_refuse rfl rfl rfl (by decide +kernel) ⟨Nat.le_of_ble_eq_true rfl, Nat.le_of_ble_eq_true rfl⟩ rfl hl.1 rfl (Nat.le_of_ble_eq_true rfl) dX7_plannedAt_24 ⟨Nat.zero_le _, Nat.zero_le _⟩ rfl (fun H locs hM => ?_)
      replace hM := hM.cg (up_up σ 0 0 0 2)
      exact W.iret (v := 0) hx hb hr (fun t ht hW => ⟨congrArg (fun z => Outcome.returned (some (Value.int z))) (by first | rfl | (simp [-Int32.not_lt, -Int32.not_le, okL, okV, okO, okR, okD, isP, shP, t_plannedAt, tL, tV, tO, tD, tLV, c_1, c_2]; done) | (simp_all [-Int32.not_lt, -Int32.not_le, okL, okV, okO, okR, okD, isP, shP, t_plannedAt, tL, tV, tO, tD, tLV]; done)), by rw [ht]; exact (hM.cg (by first | rfl | (simp [-Int32.not_lt, -Int32.not_le, okL, okV, okO, okR, okD, isP, shP, t_plannedAt, tL, tV, tO, tD, tLV, c_1, c_2, up_id]; done) | (simp_all [-Int32.not_lt, -Int32.not_le, okL, okV, okO, okR, okD, isP, shP, t_plannedAt, tL, tV, tO, tD, tLV, up_id]; done))).1, by rw [ht]; exact hM.2.1, fun q hq => by rw [ht]; exact hM.2.2.1 q hq⟩) hM.2.2.2 dX7_plannedAt_27
  · replace hM := hM.cg (congrArg (fun z => up σ 0 0 z) (if_neg c_1))
    refine lv_iconst (v := 0) hx hb dX7_plannedAt_8 (by decide) ?_
    exact W.iret (v := 0) hx hb hr (fun t ht hW => ⟨congrArg (fun z => Outcome.returned (some (Value.int z))) (by first | rfl | (simp [-Int32.not_lt, -Int32.not_le, okL, okV, okO, okR, okD, isP, shP, t_plannedAt, tL, tV, tO, tD, tLV, c_1]; done) | (simp_all [-Int32.not_lt, -Int32.not_le, okL, okV, okO, okR, okD, isP, shP, t_plannedAt, tL, tV, tO, tD, tLV]; done)), by rw [ht]; exact (hM.cg (by first | rfl | (simp [-Int32.not_lt, -Int32.not_le, okL, okV, okO, okR, okD, isP, shP, t_plannedAt, tL, tV, tO, tD, tLV, c_1, up_id]; done) | (simp_all [-Int32.not_lt, -Int32.not_le, okL, okV, okO, okR, okD, isP, shP, t_plannedAt, tL, tV, tO, tD, tLV, up_id]; done))).1, by rw [ht]; exact hM.2.1, fun q hq => by rw [ht]; exact hM.2.2.1 q hq⟩) hM.2.2.2 dX7_plannedAt_9
set_option maxHeartbeats 4000000 in
set_option maxRecDepth 100000 in
theorem k_recipes (la : Launch) (g : EG) (ma : Nat → Nat) (σ : Sg) (u : Nat → Int64) : Met la yX7_recipes wsX7_recipes ({ frames := 0, cells := 0, slots := 0, locals := 0 } : Room) (va_Pc [.ref (ma 0)] (fun U => MR g ma σ u U.heap ∧ KK g U)) (QR (.returned (some (.int (σ 1 0))))) 0 0 (fun _ => False) := by
  refine Met.ofW (cc := cX7_recipes) (maxL := 1) (ret := (some .int)) (by decide) rfl ?_
  intro p e s m args below meth c s₁ B hml hv
  obtain ⟨rfl, hR0, hK⟩ := hv
  have hx := B.exec
  have hb := B.bytes
  have hr := B.returns
  have hts := atoms_spec (ws := wsX7_recipes) B.pre
  have hown : s.vm.findClass RX7 = some m.cls := findClass_of_methodNamed B.named
  have hlocks := B.notSynchronized
  have hM : MS g 0 ma σ u s.heap s.heap [] := MS.start hR0
  have hinX7 : ∀ w ∈ wsX70, w ∈ wsX7_recipes := by decide +kernel
  have lk108 := hts (.fieldLink RX7 108 "DyehouseLedgerModel" "recipes" "I") (by decide +kernel)
  have hl := lv_entry ([.ref (ma 0)]) (n := 1) (Nat.le_of_ble_eq_true rfl)
  rw [lg_entry_eq]
  generalize (lg_sl ([.ref (ma 0)]) ++ List.replicate (1 - (lg_sl ([.ref (ma 0)])).length) Slot.unset).toArray = ls at hl ⊢
  have hl : lv_has ls 1 [(0, .ref (ma 0))] := hl
  refine lv_aload_n hx hb dX7_recipes_0 rfl (lv_at hl 0 rfl) ?_
  refine m_get (v := .int (σ 1 0)) hx hb hts hinX7 hown hK hM 1 (by decide) lk108 rfl dX7_recipes_1 ?_
  exact W.iret (v := (σ 1 0)) hx hb hr (fun t ht hW => ⟨congrArg (fun z => Outcome.returned (some (Value.int z))) (by first | rfl | (simp [-Int32.not_lt, -Int32.not_le, okL, okV, okO, okR, okD, isP, shP]; done) | (simp_all [-Int32.not_lt, -Int32.not_le, okL, okV, okO, okR, okD, isP, shP]; done)), ht⟩) (fun _ h => nomatch h) dX7_recipes_4
set_option maxHeartbeats 4000000 in
set_option maxRecDepth 100000 in
theorem k_lots (la : Launch) (g : EG) (ma : Nat → Nat) (σ : Sg) (u : Nat → Int64) : Met la yX7_lots wsX7_lots ({ frames := 0, cells := 0, slots := 0, locals := 0 } : Room) (va_Pc [.ref (ma 0)] (fun U => MR g ma σ u U.heap ∧ KK g U)) (QR (.returned (some (.int (σ 3 0))))) 0 0 (fun _ => False) := by
  refine Met.ofW (cc := cX7_lots) (maxL := 1) (ret := (some .int)) (by decide) rfl ?_
  intro p e s m args below meth c s₁ B hml hv
  obtain ⟨rfl, hR0, hK⟩ := hv
  have hx := B.exec
  have hb := B.bytes
  have hr := B.returns
  have hts := atoms_spec (ws := wsX7_lots) B.pre
  have hown : s.vm.findClass RX7 = some m.cls := findClass_of_methodNamed B.named
  have hlocks := B.notSynchronized
  have hM : MS g 0 ma σ u s.heap s.heap [] := MS.start hR0
  have hinX7 : ∀ w ∈ wsX70, w ∈ wsX7_lots := by decide +kernel
  have lk92 := hts (.fieldLink RX7 92 "DyehouseLedgerModel" "lots" "I") (by decide +kernel)
  have hl := lv_entry ([.ref (ma 0)]) (n := 1) (Nat.le_of_ble_eq_true rfl)
  rw [lg_entry_eq]
  generalize (lg_sl ([.ref (ma 0)]) ++ List.replicate (1 - (lg_sl ([.ref (ma 0)])).length) Slot.unset).toArray = ls at hl ⊢
  have hl : lv_has ls 1 [(0, .ref (ma 0))] := hl
  refine lv_aload_n hx hb dX7_lots_0 rfl (lv_at hl 0 rfl) ?_
  refine m_get (v := .int (σ 3 0)) hx hb hts hinX7 hown hK hM 3 (by decide) lk92 rfl dX7_lots_1 ?_
  exact W.iret (v := (σ 3 0)) hx hb hr (fun t ht hW => ⟨congrArg (fun z => Outcome.returned (some (Value.int z))) (by first | rfl | (simp [-Int32.not_lt, -Int32.not_le, okL, okV, okO, okR, okD, isP, shP]; done) | (simp_all [-Int32.not_lt, -Int32.not_le, okL, okV, okO, okR, okD, isP, shP]; done)), ht⟩) (fun _ h => nomatch h) dX7_lots_4
set_option maxHeartbeats 4000000 in
set_option maxRecDepth 100000 in
theorem k_thrown (la : Launch) (g : EG) (ma : Nat → Nat) (σ : Sg) (u : Nat → Int64) : Met la yX7_thrown wsX7_thrown ({ frames := 0, cells := 0, slots := 0, locals := 0 } : Room) (va_Pc [.ref (ma 0)] (fun U => MR g ma σ u U.heap ∧ KK g U)) (QR (.returned (some (.int (σ 0 0))))) 0 0 (fun _ => False) := by
  refine Met.ofW (cc := cX7_thrown) (maxL := 1) (ret := (some .int)) (by decide) rfl ?_
  intro p e s m args below meth c s₁ B hml hv
  obtain ⟨rfl, hR0, hK⟩ := hv
  have hx := B.exec
  have hb := B.bytes
  have hr := B.returns
  have hts := atoms_spec (ws := wsX7_thrown) B.pre
  have hown : s.vm.findClass RX7 = some m.cls := findClass_of_methodNamed B.named
  have hlocks := B.notSynchronized
  have hM : MS g 0 ma σ u s.heap s.heap [] := MS.start hR0
  have hinX7 : ∀ w ∈ wsX70, w ∈ wsX7_thrown := by decide +kernel
  have lk84 := hts (.fieldLink RX7 84 "DyehouseLedgerModel" "thrown" "I") (by decide +kernel)
  have hl := lv_entry ([.ref (ma 0)]) (n := 1) (Nat.le_of_ble_eq_true rfl)
  rw [lg_entry_eq]
  generalize (lg_sl ([.ref (ma 0)]) ++ List.replicate (1 - (lg_sl ([.ref (ma 0)])).length) Slot.unset).toArray = ls at hl ⊢
  have hl : lv_has ls 1 [(0, .ref (ma 0))] := hl
  refine lv_aload_n hx hb dX7_thrown_0 rfl (lv_at hl 0 rfl) ?_
  refine m_get (v := .int (σ 0 0)) hx hb hts hinX7 hown hK hM 0 (by decide) lk84 rfl dX7_thrown_1 ?_
  exact W.iret (v := (σ 0 0)) hx hb hr (fun t ht hW => ⟨congrArg (fun z => Outcome.returned (some (Value.int z))) (by first | rfl | (simp [-Int32.not_lt, -Int32.not_le, okL, okV, okO, okR, okD, isP, shP]; done) | (simp_all [-Int32.not_lt, -Int32.not_le, okL, okV, okO, okR, okD, isP, shP]; done)), ht⟩) (fun _ h => nomatch h) dX7_thrown_4
set_option maxHeartbeats 4000000 in
set_option maxRecDepth 100000 in
theorem k_stateOf (la : Launch) (g : EG) (lo : Nat) (ma : Nat → Nat) (hA : MA lo ma) (σ : Sg) (u : Nat → Int64) (l : Int32) (hI : INV σ) : Met la yX7_stateOf wsX7_stateOf ({ frames := 2, cells := 0, slots := 0, locals := 43 } : Room) (va_Pc [.ref (ma 0), .int l] (fun U => MR g ma σ u U.heap ∧ KK g U)) (QM (.returned (some (.int (if okL σ l then σ 21 (ti l) else 119)))) (fun H1 => MR g ma (up σ 0 0 (tL σ l)) u H1) (mown ma)) 0 0 (fun q => lo ≤ q) := by
  refine Met.ofW (cc := cX7_stateOf) (maxL := 2) (ret := (some .char)) (by decide) rfl ?_
  intro p e s m args below meth c s₁ B hml hv
  obtain ⟨rfl, hR0, hK⟩ := hv
  have hx := B.exec
  have hb := B.bytes
  have hr := B.returns
  have hts := atoms_spec (ws := wsX7_stateOf) B.pre
  have hown : s.vm.findClass RX7 = some m.cls := findClass_of_methodNamed B.named
  have hlocks := B.notSynchronized
  have hM : MS g lo ma σ u s.heap s.heap [] := MS.start hR0
  have hinX7 : ∀ w ∈ wsX70, w ∈ wsX7_stateOf := by decide +kernel
  have lk59 := hts (.fieldLink RX7 59 "DyehouseLedgerModel" "state" "[C") (by decide +kernel)
  have hl := lv_entry ([.ref (ma 0), .int l]) (n := 2) (Nat.le_of_ble_eq_true rfl)
  rw [lg_entry_eq]
  generalize (lg_sl ([.ref (ma 0), .int l]) ++ List.replicate (2 - (lg_sl ([.ref (ma 0), .int l])).length) Slot.unset).toArray = ls at hl ⊢
  have hl : lv_has ls 2 [(0, .ref (ma 0)), (1, .int l)] := hl
  refine lv_aload_n hx hb dX7_stateOf_0 rfl (lv_at hl 0 rfl) ?_
  refine lv_iload_n hx hb dX7_stateOf_1 rfl (lv_at hl 1 rfl) ?_
  refine mc_mu (n := 1) (As := [.int l]) (rest := []) (v := [.int (if ¬ okL σ l then 1 else 0)]) ⟨hx, hb, hml, hown, hts⟩ hK hM (k_noLot la g lo ma hA σ u l ) gX7_stateOf_X7_noLot rfl rfl rfl (by decide +kernel) ⟨Nat.le_of_ble_eq_true rfl, Nat.le_of_ble_eq_true rfl⟩ rfl hl.1 rfl (Nat.le_of_ble_eq_true rfl) dX7_stateOf_2 ⟨Nat.zero_le _, Nat.zero_le _⟩ rfl (fun H locs hM => ?_)
  refine br_if_eq (c9 := ¬ okL σ l) (tgt := 13) hx hb dX7_stateOf_5 (by decide) (fun c_1 => ?_) (fun c_1 => ?_)
  · replace c_1 := Decidable.not_not.mp c_1
    replace hM := hM.cg (congrArg (fun z => up σ 0 0 z) (if_pos c_1))
    have kl := (okL_in hI l).mp c_1
    refine lv_aload_n hx hb dX7_stateOf_13 rfl (lv_at hl 0 rfl) ?_
    refine m_get (v := .ref (ma 21)) hx hb hts hinX7 hown hK hM 21 (by decide) lk59 rfl dX7_stateOf_14 ?_
    refine lv_iload_n hx hb dX7_stateOf_17 rfl (lv_at hl 1 rfl) ?_
    refine m_cald (x := (σ 21 (ti l))) hx hb hK hM (i := l) (lot24 hI kl) rfl dX7_stateOf_18 ?_
    exact W.zret (v := (σ 21 (ti l))) hx hb hr (narC hI kl) (fun t ht hW => ⟨congrArg (fun z => Outcome.returned (some (Value.int z))) (by first | rfl | (simp [-Int32.not_lt, -Int32.not_le, okL, okV, okO, okR, okD, isP, shP, tL, tV, tO, tD, tLV, c_1]; done) | (simp_all [-Int32.not_lt, -Int32.not_le, okL, okV, okO, okR, okD, isP, shP, tL, tV, tO, tD, tLV]; done)), by rw [ht]; exact (hM.cg (by first | rfl | (simp [-Int32.not_lt, -Int32.not_le, okL, okV, okO, okR, okD, isP, shP, tL, tV, tO, tD, tLV, c_1, up_id]; done) | (simp_all [-Int32.not_lt, -Int32.not_le, okL, okV, okO, okR, okD, isP, shP, tL, tV, tO, tD, tLV, up_id]; done))).1, by rw [ht]; exact hM.2.1, fun q hq => by rw [ht]; exact hM.2.2.1 q hq⟩) hM.2.2.2 dX7_stateOf_19
  · replace hM := hM.cg (congrArg (fun z => up σ 0 0 z) (if_neg c_1))
    refine lv_bipush (v := 119) hx hb dX7_stateOf_8 (by decide) ?_
    refine lv_goto (tgt := 19) hx hb dX7_stateOf_10 (by decide) ?_
    exact W.zret (v := 119) hx hb hr rfl (fun t ht hW => ⟨congrArg (fun z => Outcome.returned (some (Value.int z))) (by first | rfl | (simp [-Int32.not_lt, -Int32.not_le, okL, okV, okO, okR, okD, isP, shP, tL, tV, tO, tD, tLV, c_1]; done) | (simp_all [-Int32.not_lt, -Int32.not_le, okL, okV, okO, okR, okD, isP, shP, tL, tV, tO, tD, tLV]; done)), by rw [ht]; exact (hM.cg (by first | rfl | (simp [-Int32.not_lt, -Int32.not_le, okL, okV, okO, okR, okD, isP, shP, tL, tV, tO, tD, tLV, c_1, up_id]; done) | (simp_all [-Int32.not_lt, -Int32.not_le, okL, okV, okO, okR, okD, isP, shP, tL, tV, tO, tD, tLV, up_id]; done))).1, by rw [ht]; exact hM.2.1, fun q hq => by rw [ht]; exact hM.2.2.1 q hq⟩) hM.2.2.2 dX7_stateOf_19
set_option maxHeartbeats 4000000 in
set_option maxRecDepth 100000 in
theorem k_shadeOf (la : Launch) (g : EG) (lo : Nat) (ma : Nat → Nat) (hA : MA lo ma) (σ : Sg) (u : Nat → Int64) (l q : Int32) (hI : INV σ) : Met la yX7_shadeOf wsX7_shadeOf ({ frames := 3, cells := 0, slots := 0, locals := 64 } : Room) (va_Pc [.ref (ma 0), .int l, .int q] (fun U => MR g ma σ u U.heap ∧ KK g U)) (QM (.returned (some (.int (if okW σ l ∧ okD q then σ 16 (ti (3 * l + q)) else 0)))) (fun H1 => MR g ma (up σ 0 0 (t_shadeOf σ l q)) u H1) (mown ma)) 0 0 (fun q => lo ≤ q) := by
  refine Met.ofW (cc := cX7_shadeOf) (maxL := 3) (ret := (some .int)) (by decide) rfl ?_
  intro p e s m args below meth c s₁ B hml hv
  obtain ⟨rfl, hR0, hK⟩ := hv
  have hx := B.exec
  have hb := B.bytes
  have hr := B.returns
  have hts := atoms_spec (ws := wsX7_shadeOf) B.pre
  have hown : s.vm.findClass RX7 = some m.cls := findClass_of_methodNamed B.named
  have hlocks := B.notSynchronized
  have hM : MS g lo ma σ u s.heap s.heap [] := MS.start hR0
  have hinX7 : ∀ w ∈ wsX70, w ∈ wsX7_shadeOf := by decide +kernel
  have lk44 := hts (.fieldLink RX7 44 "DyehouseLedgerModel" "out" "[I") (by decide +kernel)
  have hl := lv_entry ([.ref (ma 0), .int l, .int q]) (n := 3) (Nat.le_of_ble_eq_true rfl)
  rw [lg_entry_eq]
  generalize (lg_sl ([.ref (ma 0), .int l, .int q]) ++ List.replicate (3 - (lg_sl ([.ref (ma 0), .int l, .int q])).length) Slot.unset).toArray = ls at hl ⊢
  have hl : lv_has ls 3 [(0, .ref (ma 0)), (1, .int l), (2, .int q)] := hl
  refine lv_aload_n hx hb dX7_shadeOf_0 rfl (lv_at hl 0 rfl) ?_
  refine lv_iload_n hx hb dX7_shadeOf_1 rfl (lv_at hl 1 rfl) ?_
  refine mc_mu (n := 1) (As := [.int l]) (rest := []) (v := [.int (if ¬ (okL σ l ∧ ¬ σ 21 (ti l) = 119) then 1 else 0)]) ⟨hx, hb, hml, hown, hts⟩ hK hM (k_isWaiting la g lo ma hA σ u l hI) gX7_shadeOf_X7_isWaiting rfl rfl rfl (by decide +kernel) ⟨Nat.le_of_ble_eq_true rfl, Nat.le_of_ble_eq_true rfl⟩ rfl hl.1 rfl (Nat.le_of_ble_eq_true rfl) dX7_shadeOf_2 ⟨Nat.zero_le _, Nat.zero_le _⟩ rfl (fun H locs hM => ?_)
  refine br_if_eq (c9 := ¬ (okL σ l ∧ ¬ σ 21 (ti l) = 119)) (tgt := 10) hx hb dX7_shadeOf_5 (by decide) (fun c_1 => ?_) (fun c_1 => ?_)
  · replace c_1 := Decidable.not_not.mp c_1
    replace hM := hM.cg (congrArg (fun z => up σ 0 0 z) (tW_ok c_1))
    have kl := (okL_in hI l).mp c_1.1
    refine lv_iload_n hx hb dX7_shadeOf_10 rfl (lv_at hl 2 rfl) ?_
    refine lv_iconst (v := 0) hx hb dX7_shadeOf_11 (by decide) ?_
    refine lv_iconst (v := 2) hx hb dX7_shadeOf_12 (by decide) ?_
    refine sc_ro (n := 3) (As := [.int q, .int 0, .int 2]) (rest := []) (v := [.int (if isP q 0 2 then 1 else 0)]) ⟨hx, hb, hml, hown, hts⟩ (k_isIn la q 0 2) gX7_shadeOf_X7_isIn rfl rfl rfl (by decide +kernel) ⟨Nat.le_of_ble_eq_true rfl, Nat.le_of_ble_eq_true rfl⟩ rfl hl.1 rfl (Nat.le_of_ble_eq_true rfl) dX7_shadeOf_13 ⟨Nat.zero_le _, Nat.zero_le _⟩ rfl ?_
    refine br_if_ne (c9 := isP q 0 2) (tgt := 25) hx hb dX7_shadeOf_16 (by decide) (fun c_2 => ?_) (fun c_2 => ?_)
    · have kq := (okD_in q).mp c_2
      refine lv_aload_n hx hb dX7_shadeOf_25 rfl (lv_at hl 0 rfl) ?_
      refine m_get (v := .ref (ma 16)) hx hb hts hinX7 hown hK hM 16 (by decide) lk44 rfl dX7_shadeOf_26 ?_
      refine lv_iconst (v := 3) hx hb dX7_shadeOf_29 (by decide) ?_
      refine lv_iload_n hx hb dX7_shadeOf_30 rfl (lv_at hl 1 rfl) ?_
      refine lv_imul hx hb dX7_shadeOf_31 ?_
      refine lv_iload_n hx hb dX7_shadeOf_32 rfl (lv_at hl 2 rfl) ?_
      refine lv_iadd hx hb dX7_shadeOf_33 ?_
      refine m_iald (x := (σ 16 (ti ((3 * l) + q)))) hx hb hK hM 16 (by decide) rfl (i := ((3 * l) + q)) (n := 72) (vin_3d (lot24 hI kl) (by decide) (by decide) kq).1 rfl dX7_shadeOf_34 ?_
      exact W.iret (v := (σ 16 (ti ((3 * l) + q)))) hx hb hr (fun t ht hW => ⟨congrArg (fun z => Outcome.returned (some (Value.int z))) (by first | rfl | (simp [-Int32.not_lt, -Int32.not_le, okL, okV, okO, okR, okD, isP, shP, t_shadeOf, tW, okW, tL, tV, tO, tD, tLV, c_1, c_2]; done) | (simp_all [-Int32.not_lt, -Int32.not_le, okL, okV, okO, okR, okD, isP, shP, t_shadeOf, tW, okW, tL, tV, tO, tD, tLV]; done)), by rw [ht]; exact (hM.cg (by first | rfl | (simp [-Int32.not_lt, -Int32.not_le, okL, okV, okO, okR, okD, isP, shP, t_shadeOf, tW, okW, tL, tV, tO, tD, tLV, c_1, c_2, up_id]; done) | (simp_all [-Int32.not_lt, -Int32.not_le, okL, okV, okO, okR, okD, isP, shP, t_shadeOf, tW, okW, tL, tV, tO, tD, tLV, up_id]; done))).1, by rw [ht]; exact hM.2.1, fun q hq => by rw [ht]; exact hM.2.2.1 q hq⟩) hM.2.2.2 dX7_shadeOf_35
    · refine lv_aload_n hx hb dX7_shadeOf_19 rfl (lv_at hl 0 rfl) ?_
      refine lv_iconst (v := 3) hx hb dX7_shadeOf_20 (by decide) ?_
      refine mc_mu (n := 1) (As := [.int 3]) (rest := []) (v := [.int 0]) ⟨hx, hb, hml, hown, hts⟩ hK hM (k_refuse la g lo ma hA (up σ 0 0 0) u 3 ) gX7_shadeOf_X7_refuse rfl rfl rfl (by decide +kernel) ⟨Nat.le_of_ble_eq_true rfl, Nat.le_of_ble_eq_true rfl⟩ rfl hl.1 rfl (Nat.le_of_ble_eq_true rfl) dX7_shadeOf_21 ⟨Nat.zero_le _, Nat.zero_le _⟩ rfl (fun H locs hM => ?_)
      replace hM := hM.cg (up_up σ 0 0 0 3)
      exact W.iret (v := 0) hx hb hr (fun t ht hW => ⟨congrArg (fun z => Outcome.returned (some (Value.int z))) (by first | rfl | (simp [-Int32.not_lt, -Int32.not_le, okL, okV, okO, okR, okD, isP, shP, t_shadeOf, tW, okW, tL, tV, tO, tD, tLV, c_1, c_2]; done) | (simp_all [-Int32.not_lt, -Int32.not_le, okL, okV, okO, okR, okD, isP, shP, t_shadeOf, tW, okW, tL, tV, tO, tD, tLV]; done)), by rw [ht]; exact (hM.cg (by first | rfl | (simp [-Int32.not_lt, -Int32.not_le, okL, okV, okO, okR, okD, isP, shP, t_shadeOf, tW, okW, tL, tV, tO, tD, tLV, c_1, c_2, up_id]; done) | (simp_all [-Int32.not_lt, -Int32.not_le, okL, okV, okO, okR, okD, isP, shP, t_shadeOf, tW, okW, tL, tV, tO, tD, tLV, up_id]; done))).1, by rw [ht]; exact hM.2.1, fun q hq => by rw [ht]; exact hM.2.2.1 q hq⟩) hM.2.2.2 dX7_shadeOf_24
  · refine lv_iconst (v := 0) hx hb dX7_shadeOf_8 (by decide) ?_
    exact W.iret (v := 0) hx hb hr (fun t ht hW => ⟨congrArg (fun z => Outcome.returned (some (Value.int z))) (by first | rfl | (simp [-Int32.not_lt, -Int32.not_le, okL, okV, okO, okR, okD, isP, shP, t_shadeOf, tW, okW, tL, tV, tO, tD, tLV, c_1]; done) | (simp_all [-Int32.not_lt, -Int32.not_le, okL, okV, okO, okR, okD, isP, shP, t_shadeOf, tW, okW, tL, tV, tO, tD, tLV]; done)), by rw [ht]; exact (hM.cg (by first | rfl | (simp [-Int32.not_lt, -Int32.not_le, okL, okV, okO, okR, okD, isP, shP, t_shadeOf, tW, okW, tL, tV, tO, tD, tLV, c_1, up_id]; done) | (simp_all [-Int32.not_lt, -Int32.not_le, okL, okV, okO, okR, okD, isP, shP, t_shadeOf, tW, okW, tL, tV, tO, tD, tLV, up_id]; done))).1, by rw [ht]; exact hM.2.1, fun q hq => by rw [ht]; exact hM.2.2.1 q hq⟩) hM.2.2.2 dX7_shadeOf_9
set_option maxHeartbeats 4000000 in
set_option maxRecDepth 100000 in
theorem k_vatOf (la : Launch) (g : EG) (lo : Nat) (ma : Nat → Nat) (hA : MA lo ma) (σ : Sg) (u : Nat → Int64) (l : Int32) (hI : INV σ) : Met la yX7_vatOf wsX7_vatOf ({ frames := 3, cells := 0, slots := 0, locals := 64 } : Room) (va_Pc [.ref (ma 0), .int l] (fun U => MR g ma σ u U.heap ∧ KK g U)) (QM (.returned (some (.int (if okL σ l ∧ ¬ σ 21 (ti l) = 119 then σ 17 (ti l) else 0)))) (fun H1 => MR g ma (up σ 0 0 (tW σ l)) u H1) (mown ma)) 0 0 (fun q => lo ≤ q) := by
  refine Met.ofW (cc := cX7_vatOf) (maxL := 2) (ret := (some .int)) (by decide) rfl ?_
  intro p e s m args below meth c s₁ B hml hv
  obtain ⟨rfl, hR0, hK⟩ := hv
  have hx := B.exec
  have hb := B.bytes
  have hr := B.returns
  have hts := atoms_spec (ws := wsX7_vatOf) B.pre
  have hown : s.vm.findClass RX7 = some m.cls := findClass_of_methodNamed B.named
  have hlocks := B.notSynchronized
  have hM : MS g lo ma σ u s.heap s.heap [] := MS.start hR0
  have hinX7 : ∀ w ∈ wsX70, w ∈ wsX7_vatOf := by decide +kernel
  have lk47 := hts (.fieldLink RX7 47 "DyehouseLedgerModel" "vat" "[I") (by decide +kernel)
  have hl := lv_entry ([.ref (ma 0), .int l]) (n := 2) (Nat.le_of_ble_eq_true rfl)
  rw [lg_entry_eq]
  generalize (lg_sl ([.ref (ma 0), .int l]) ++ List.replicate (2 - (lg_sl ([.ref (ma 0), .int l])).length) Slot.unset).toArray = ls at hl ⊢
  have hl : lv_has ls 2 [(0, .ref (ma 0)), (1, .int l)] := hl
  refine lv_aload_n hx hb dX7_vatOf_0 rfl (lv_at hl 0 rfl) ?_
  refine lv_iload_n hx hb dX7_vatOf_1 rfl (lv_at hl 1 rfl) ?_
  refine mc_mu (n := 1) (As := [.int l]) (rest := []) (v := [.int (if ¬ (okL σ l ∧ ¬ σ 21 (ti l) = 119) then 1 else 0)]) ⟨hx, hb, hml, hown, hts⟩ hK hM (k_isWaiting la g lo ma hA σ u l hI) gX7_vatOf_X7_isWaiting rfl rfl rfl (by decide +kernel) ⟨Nat.le_of_ble_eq_true rfl, Nat.le_of_ble_eq_true rfl⟩ rfl hl.1 rfl (Nat.le_of_ble_eq_true rfl) dX7_vatOf_2 ⟨Nat.zero_le _, Nat.zero_le _⟩ rfl (fun H locs hM => ?_)
  refine br_if_eq (c9 := ¬ (okL σ l ∧ ¬ σ 21 (ti l) = 119)) (tgt := 12) hx hb dX7_vatOf_5 (by decide) (fun c_1 => ?_) (fun c_1 => ?_)
  · replace c_1 := Decidable.not_not.mp c_1
    replace hM := hM.cg (congrArg (fun z => up σ 0 0 z) (tW_ok c_1))
    have kl := (okL_in hI l).mp c_1.1
    refine lv_aload_n hx hb dX7_vatOf_12 rfl (lv_at hl 0 rfl) ?_
    refine m_get (v := .ref (ma 17)) hx hb hts hinX7 hown hK hM 17 (by decide) lk47 rfl dX7_vatOf_13 ?_
    refine lv_iload_n hx hb dX7_vatOf_16 rfl (lv_at hl 1 rfl) ?_
    refine m_iald (x := (σ 17 (ti l))) hx hb hK hM 17 (by decide) rfl (i := l) (n := 24) (lot24 hI kl) rfl dX7_vatOf_17 ?_
    exact W.iret (v := (σ 17 (ti l))) hx hb hr (fun t ht hW => ⟨congrArg (fun z => Outcome.returned (some (Value.int z))) (by first | rfl | (simp [-Int32.not_lt, -Int32.not_le, okL, okV, okO, okR, okD, isP, shP, tW, tL, tV, tO, tD, tLV, c_1]; done) | (simp_all [-Int32.not_lt, -Int32.not_le, okL, okV, okO, okR, okD, isP, shP, tW, tL, tV, tO, tD, tLV]; done)), by rw [ht]; exact (hM.cg (by first | rfl | (simp [-Int32.not_lt, -Int32.not_le, okL, okV, okO, okR, okD, isP, shP, tW, tL, tV, tO, tD, tLV, c_1, up_id]; done) | (simp_all [-Int32.not_lt, -Int32.not_le, okL, okV, okO, okR, okD, isP, shP, tW, tL, tV, tO, tD, tLV, up_id]; done))).1, by rw [ht]; exact hM.2.1, fun q hq => by rw [ht]; exact hM.2.2.1 q hq⟩) hM.2.2.2 dX7_vatOf_18
  · refine lv_iconst (v := 0) hx hb dX7_vatOf_8 (by decide) ?_
    refine lv_goto (tgt := 18) hx hb dX7_vatOf_9 (by decide) ?_
    exact W.iret (v := 0) hx hb hr (fun t ht hW => ⟨congrArg (fun z => Outcome.returned (some (Value.int z))) (by first | rfl | (simp [-Int32.not_lt, -Int32.not_le, okL, okV, okO, okR, okD, isP, shP, tW, tL, tV, tO, tD, tLV, c_1]; done) | (simp_all [-Int32.not_lt, -Int32.not_le, okL, okV, okO, okR, okD, isP, shP, tW, tL, tV, tO, tD, tLV]; done)), by rw [ht]; exact (hM.cg (by first | rfl | (simp [-Int32.not_lt, -Int32.not_le, okL, okV, okO, okR, okD, isP, shP, tW, tL, tV, tO, tD, tLV, c_1, up_id]; done) | (simp_all [-Int32.not_lt, -Int32.not_le, okL, okV, okO, okR, okD, isP, shP, tW, tL, tV, tO, tD, tLV, up_id]; done))).1, by rw [ht]; exact hM.2.1, fun q hq => by rw [ht]; exact hM.2.2.1 q hq⟩) hM.2.2.2 dX7_vatOf_18
set_option maxHeartbeats 4000000 in
set_option maxRecDepth 100000 in
theorem k_offBy (la : Launch) (g : EG) (lo : Nat) (ma : Nat → Nat) (hA : MA lo ma) (σ : Sg) (u : Nat → Int64) (l : Int32) (hI : INV σ) : Met la yX7_offBy wsX7_offBy ({ frames := 3, cells := 0, slots := 0, locals := 64 } : Room) (va_Pc [.ref (ma 0), .int l] (fun U => MR g ma σ u U.heap ∧ KK g U)) (QM (.returned (some (.int (if okL σ l ∧ ¬ σ 21 (ti l) = 119 then f_off σ l else 0)))) (fun H1 => MR g ma (up σ 0 0 (tW σ l)) u H1) (mown ma)) 0 0 (fun q => lo ≤ q) := by
  refine Met.ofW (cc := cX7_offBy) (maxL := 2) (ret := (some .int)) (by decide) rfl ?_
  intro p e s m args below meth c s₁ B hml hv
  obtain ⟨rfl, hR0, hK⟩ := hv
  have hx := B.exec
  have hb := B.bytes
  have hr := B.returns
  have hts := atoms_spec (ws := wsX7_offBy) B.pre
  have hown : s.vm.findClass RX7 = some m.cls := findClass_of_methodNamed B.named
  have hlocks := B.notSynchronized
  have hM : MS g lo ma σ u s.heap s.heap [] := MS.start hR0
  have hl := lv_entry ([.ref (ma 0), .int l]) (n := 2) (Nat.le_of_ble_eq_true rfl)
  rw [lg_entry_eq]
  generalize (lg_sl ([.ref (ma 0), .int l]) ++ List.replicate (2 - (lg_sl ([.ref (ma 0), .int l])).length) Slot.unset).toArray = ls at hl ⊢
  have hl : lv_has ls 2 [(0, .ref (ma 0)), (1, .int l)] := hl
  refine lv_aload_n hx hb dX7_offBy_0 rfl (lv_at hl 0 rfl) ?_
  refine lv_iload_n hx hb dX7_offBy_1 rfl (lv_at hl 1 rfl) ?_
  refine mc_mu (n := 1) (As := [.int l]) (rest := []) (v := [.int (if ¬ (okL σ l ∧ ¬ σ 21 (ti l) = 119) then 1 else 0)]) ⟨hx, hb, hml, hown, hts⟩ hK hM (k_isWaiting la g lo ma hA σ u l hI) gX7_offBy_X7_isWaiting rfl rfl rfl (by decide +kernel) ⟨Nat.le_of_ble_eq_true rfl, Nat.le_of_ble_eq_true rfl⟩ rfl hl.1 rfl (Nat.le_of_ble_eq_true rfl) dX7_offBy_2 ⟨Nat.zero_le _, Nat.zero_le _⟩ rfl (fun H locs hM => ?_)
  refine br_if_eq (c9 := ¬ (okL σ l ∧ ¬ σ 21 (ti l) = 119)) (tgt := 12) hx hb dX7_offBy_5 (by decide) (fun c_1 => ?_) (fun c_1 => ?_)
  · replace c_1 := Decidable.not_not.mp c_1
    replace hM := hM.cg (congrArg (fun z => up σ 0 0 z) (tW_ok c_1))
    have kl := (okL_in hI l).mp c_1.1
    refine lv_aload_n hx hb dX7_offBy_12 rfl (lv_at hl 0 rfl) ?_
    refine lv_iload_n hx hb dX7_offBy_13 rfl (lv_at hl 1 rfl) ?_
    refine mc_ro (n := 1) (As := [.int l]) (rest := []) (v := [.int (f_off σ l)]) ⟨hx, hb, hml, hown, hts⟩ hK hM (k_off la g ma (up σ 0 0 0) u l (hI.up0 _) kl) gX7_offBy_X7_off rfl rfl rfl (by decide +kernel) ⟨Nat.le_of_ble_eq_true rfl, Nat.le_of_ble_eq_true rfl⟩ rfl hl.1 rfl (Nat.le_of_ble_eq_true rfl) dX7_offBy_14 ⟨Nat.zero_le _, Nat.zero_le _⟩ rfl ?_
    exact W.iret (v := (f_off σ l)) hx hb hr (fun t ht hW => ⟨congrArg (fun z => Outcome.returned (some (Value.int z))) (by first | rfl | (simp [-Int32.not_lt, -Int32.not_le, okL, okV, okO, okR, okD, isP, shP, tW, tL, tV, tO, tD, tLV, c_1]; done) | (simp_all [-Int32.not_lt, -Int32.not_le, okL, okV, okO, okR, okD, isP, shP, tW, tL, tV, tO, tD, tLV]; done)), by rw [ht]; exact (hM.cg (by first | rfl | (simp [-Int32.not_lt, -Int32.not_le, okL, okV, okO, okR, okD, isP, shP, tW, tL, tV, tO, tD, tLV, c_1, up_id]; done) | (simp_all [-Int32.not_lt, -Int32.not_le, okL, okV, okO, okR, okD, isP, shP, tW, tL, tV, tO, tD, tLV, up_id]; done))).1, by rw [ht]; exact hM.2.1, fun q hq => by rw [ht]; exact hM.2.2.1 q hq⟩) hM.2.2.2 dX7_offBy_17
  · refine lv_iconst (v := 0) hx hb dX7_offBy_8 (by decide) ?_
    refine lv_goto (tgt := 17) hx hb dX7_offBy_9 (by decide) ?_
    exact W.iret (v := 0) hx hb hr (fun t ht hW => ⟨congrArg (fun z => Outcome.returned (some (Value.int z))) (by first | rfl | (simp [-Int32.not_lt, -Int32.not_le, okL, okV, okO, okR, okD, isP, shP, tW, tL, tV, tO, tD, tLV, c_1]; done) | (simp_all [-Int32.not_lt, -Int32.not_le, okL, okV, okO, okR, okD, isP, shP, tW, tL, tV, tO, tD, tLV]; done)), by rw [ht]; exact (hM.cg (by first | rfl | (simp [-Int32.not_lt, -Int32.not_le, okL, okV, okO, okR, okD, isP, shP, tW, tL, tV, tO, tD, tLV, c_1, up_id]; done) | (simp_all [-Int32.not_lt, -Int32.not_le, okL, okV, okO, okR, okD, isP, shP, tW, tL, tV, tO, tD, tLV, up_id]; done))).1, by rw [ht]; exact hM.2.1, fun q hq => by rw [ht]; exact hM.2.2.1 q hq⟩) hM.2.2.2 dX7_offBy_17
set_option maxHeartbeats 4000000 in
set_option maxRecDepth 100000 in
theorem k_distance (la : Launch) (g : EG) (lo : Nat) (ma : Nat → Nat) (hA : MA lo ma) (σ : Sg) (u : Nat → Int64) (l b : Int32) (hI : INV σ) : Met la yX7_distance wsX7_distance ({ frames := 3, cells := 0, slots := 0, locals := 64 } : Room) (va_Pc [.ref (ma 0), .int l, .int b] (fun U => MR g ma σ u U.heap ∧ KK g U)) (QM (.returned (some (.int (if t_dist σ l b = 0 then f_apart σ l b else 0)))) (fun H1 => MR g ma (up σ 0 0 (t_dist σ l b)) u H1) (mown ma)) 0 0 (fun q => lo ≤ q) := by
  refine Met.ofW (cc := cX7_distance) (maxL := 3) (ret := (some .int)) (by decide) rfl ?_
  intro p e s m args below meth c s₁ B hml hv
  obtain ⟨rfl, hR0, hK⟩ := hv
  have hx := B.exec
  have hb := B.bytes
  have hr := B.returns
  have hts := atoms_spec (ws := wsX7_distance) B.pre
  have hown : s.vm.findClass RX7 = some m.cls := findClass_of_methodNamed B.named
  have hlocks := B.notSynchronized
  have hM : MS g lo ma σ u s.heap s.heap [] := MS.start hR0
  have hl := lv_entry ([.ref (ma 0), .int l, .int b]) (n := 3) (Nat.le_of_ble_eq_true rfl)
  rw [lg_entry_eq]
  generalize (lg_sl ([.ref (ma 0), .int l, .int b]) ++ List.replicate (3 - (lg_sl ([.ref (ma 0), .int l, .int b])).length) Slot.unset).toArray = ls at hl ⊢
  have hl : lv_has ls 3 [(0, .ref (ma 0)), (1, .int l), (2, .int b)] := hl
  refine lv_aload_n hx hb dX7_distance_0 rfl (lv_at hl 0 rfl) ?_
  refine lv_iload_n hx hb dX7_distance_1 rfl (lv_at hl 1 rfl) ?_
  refine mc_mu (n := 1) (As := [.int l]) (rest := []) (v := [.int (if ¬ okL σ l then 1 else 0)]) ⟨hx, hb, hml, hown, hts⟩ hK hM (k_noLot la g lo ma hA σ u l ) gX7_distance_X7_noLot rfl rfl rfl (by decide +kernel) ⟨Nat.le_of_ble_eq_true rfl, Nat.le_of_ble_eq_true rfl⟩ rfl hl.1 rfl (Nat.le_of_ble_eq_true rfl) dX7_distance_2 ⟨Nat.zero_le _, Nat.zero_le _⟩ rfl (fun H locs hM => ?_)
  refine br_if_ne (c9 := ¬ okL σ l) (tgt := 16) hx hb dX7_distance_5 (by decide) (fun c_1 => ?_) (fun c_1 => ?_)
  · replace hM := hM.cg (congrArg (fun z => up σ 0 0 z) (if_neg c_1))
    refine lv_iconst (v := 0) hx hb dX7_distance_16 (by decide) ?_
    exact W.iret (v := 0) hx hb hr (fun t ht hW => ⟨congrArg (fun z => Outcome.returned (some (Value.int z))) (by first | rfl | (simp [-Int32.not_lt, -Int32.not_le, okL, okV, okO, okR, okD, isP, shP, t_dist, tW, tL, tV, tO, tD, tLV, c_1]; done) | (simp_all [-Int32.not_lt, -Int32.not_le, okL, okV, okO, okR, okD, isP, shP, t_dist, tW, tL, tV, tO, tD, tLV]; done)), by rw [ht]; exact (hM.cg (by first | rfl | (simp [-Int32.not_lt, -Int32.not_le, okL, okV, okO, okR, okD, isP, shP, t_dist, tW, tL, tV, tO, tD, tLV, c_1, up_id]; done) | (simp_all [-Int32.not_lt, -Int32.not_le, okL, okV, okO, okR, okD, isP, shP, t_dist, tW, tL, tV, tO, tD, tLV, up_id]; done))).1, by rw [ht]; exact hM.2.1, fun q hq => by rw [ht]; exact hM.2.2.1 q hq⟩) hM.2.2.2 dX7_distance_17
  · replace c_1 := Decidable.not_not.mp c_1
    replace hM := hM.cg (congrArg (fun z => up σ 0 0 z) (if_pos c_1))
    have kl := (okL_in hI l).mp c_1
    refine lv_aload_n hx hb dX7_distance_8 rfl (lv_at hl 0 rfl) ?_
    refine lv_iload_n hx hb dX7_distance_9 rfl (lv_at hl 2 rfl) ?_
    refine mc_mu (n := 1) (As := [.int b]) (rest := []) (v := [.int (if ¬ okL σ b then 1 else 0)]) ⟨hx, hb, hml, hown, hts⟩ hK hM (k_noLot la g lo ma hA (up σ 0 0 0) u b ) gX7_distance_X7_noLot rfl rfl rfl (by decide +kernel) ⟨Nat.le_of_ble_eq_true rfl, Nat.le_of_ble_eq_true rfl⟩ rfl hl.1 rfl (Nat.le_of_ble_eq_true rfl) dX7_distance_10 ⟨Nat.zero_le _, Nat.zero_le _⟩ rfl (fun H locs hM => ?_)
    replace hM := hM.cg (up_up σ 0 0 0 (if okL σ b then 0 else 1))
    refine br_if_eq (c9 := ¬ okL σ b) (tgt := 18) hx hb dX7_distance_13 (by decide) (fun c_2 => ?_) (fun c_2 => ?_)
    · replace c_2 := Decidable.not_not.mp c_2
      replace hM := hM.cg (congrArg (fun z => up σ 0 0 z) (if_pos c_2))
      have kb := (okL_in hI b).mp c_2
      refine lv_aload_n hx hb dX7_distance_18 rfl (lv_at hl 0 rfl) ?_
      refine lv_iload_n hx hb dX7_distance_19 rfl (lv_at hl 1 rfl) ?_
      refine mc_mu (n := 1) (As := [.int l]) (rest := []) (v := [.int (if ¬ (okL σ l ∧ ¬ σ 21 (ti l) = 119) then 1 else 0)]) ⟨hx, hb, hml, hown, hts⟩ hK hM (k_isWaiting la g lo ma hA (up σ 0 0 0) u l (hI.up0 _)) gX7_distance_X7_isWaiting rfl rfl rfl (by decide +kernel) ⟨Nat.le_of_ble_eq_true rfl, Nat.le_of_ble_eq_true rfl⟩ rfl hl.1 rfl (Nat.le_of_ble_eq_true rfl) dX7_distance_20 ⟨Nat.zero_le _, Nat.zero_le _⟩ rfl (fun H locs hM => ?_)
      replace hM := hM.cg (up_up σ 0 0 0 (tW σ l))
      refine br_if_ne (c9 := ¬ (okL σ l ∧ ¬ σ 21 (ti l) = 119)) (tgt := 34) hx hb dX7_distance_23 (by decide) (fun c_3 => ?_) (fun c_3 => ?_)
      · refine lv_iconst (v := 0) hx hb dX7_distance_34 (by decide) ?_
        refine lv_goto (tgt := 44) hx hb dX7_distance_35 (by decide) ?_
        exact W.iret (v := 0) hx hb hr (fun t ht hW => ⟨congrArg (fun z => Outcome.returned (some (Value.int z))) (by first | rfl | (simp [-Int32.not_lt, -Int32.not_le, okL, okV, okO, okR, okD, isP, shP, t_dist, tW, tL, tV, tO, tD, tLV, c_1, c_2, c_3]; done) | (simp_all [-Int32.not_lt, -Int32.not_le, okL, okV, okO, okR, okD, isP, shP, t_dist, tW, tL, tV, tO, tD, tLV]; done)), by rw [ht]; exact (hM.cg (by first | rfl | (simp [-Int32.not_lt, -Int32.not_le, okL, okV, okO, okR, okD, isP, shP, t_dist, tW, tL, tV, tO, tD, tLV, c_1, c_2, c_3, up_id]; done) | (simp_all [-Int32.not_lt, -Int32.not_le, okL, okV, okO, okR, okD, isP, shP, t_dist, tW, tL, tV, tO, tD, tLV, up_id]; done))).1, by rw [ht]; exact hM.2.1, fun q hq => by rw [ht]; exact hM.2.2.1 q hq⟩) hM.2.2.2 dX7_distance_44
      · replace c_3 := Decidable.not_not.mp c_3
        replace hM := hM.cg (congrArg (fun z => up σ 0 0 z) (tW_ok c_3))
        have kl := (okL_in hI l).mp c_3.1
        refine lv_aload_n hx hb dX7_distance_26 rfl (lv_at hl 0 rfl) ?_
        refine lv_iload_n hx hb dX7_distance_27 rfl (lv_at hl 2 rfl) ?_
        refine mc_mu (n := 1) (As := [.int b]) (rest := []) (v := [.int (if ¬ (okL σ b ∧ ¬ σ 21 (ti b) = 119) then 1 else 0)]) ⟨hx, hb, hml, hown, hts⟩ hK hM (k_isWaiting la g lo ma hA (up σ 0 0 0) u b (hI.up0 _)) gX7_distance_X7_isWaiting rfl rfl rfl (by decide +kernel) ⟨Nat.le_of_ble_eq_true rfl, Nat.le_of_ble_eq_true rfl⟩ rfl hl.1 rfl (Nat.le_of_ble_eq_true rfl) dX7_distance_28 ⟨Nat.zero_le _, Nat.zero_le _⟩ rfl (fun H locs hM => ?_)
        replace hM := hM.cg (up_up σ 0 0 0 (tW σ b))
        refine br_if_eq (c9 := ¬ (okL σ b ∧ ¬ σ 21 (ti b) = 119)) (tgt := 38) hx hb dX7_distance_31 (by decide) (fun c_4 => ?_) (fun c_4 => ?_)
        · replace c_4 := Decidable.not_not.mp c_4
          replace hM := hM.cg (congrArg (fun z => up σ 0 0 z) (tW_ok c_4))
          have kb := (okL_in hI b).mp c_4.1
          refine lv_aload_n hx hb dX7_distance_38 rfl (lv_at hl 0 rfl) ?_
          refine lv_iload_n hx hb dX7_distance_39 rfl (lv_at hl 1 rfl) ?_
          refine lv_iload_n hx hb dX7_distance_40 rfl (lv_at hl 2 rfl) ?_
          refine mc_ro (n := 2) (As := [.int l, .int b]) (rest := []) (v := [.int (f_apart σ l b)]) ⟨hx, hb, hml, hown, hts⟩ hK hM (k_apart la g ma (up σ 0 0 0) u l b (hI.up0 _) kl kb) gX7_distance_X7_apart rfl rfl rfl (by decide +kernel) ⟨Nat.le_of_ble_eq_true rfl, Nat.le_of_ble_eq_true rfl⟩ rfl hl.1 rfl (Nat.le_of_ble_eq_true rfl) dX7_distance_41 ⟨Nat.zero_le _, Nat.zero_le _⟩ rfl ?_
          exact W.iret (v := (f_apart σ l b)) hx hb hr (fun t ht hW => ⟨congrArg (fun z => Outcome.returned (some (Value.int z))) (by first | rfl | (simp [-Int32.not_lt, -Int32.not_le, okL, okV, okO, okR, okD, isP, shP, t_dist, tW, tL, tV, tO, tD, tLV, c_1, c_2, c_3, c_4]; done) | (simp_all [-Int32.not_lt, -Int32.not_le, okL, okV, okO, okR, okD, isP, shP, t_dist, tW, tL, tV, tO, tD, tLV]; done)), by rw [ht]; exact (hM.cg (by first | rfl | (simp [-Int32.not_lt, -Int32.not_le, okL, okV, okO, okR, okD, isP, shP, t_dist, tW, tL, tV, tO, tD, tLV, c_1, c_2, c_3, c_4, up_id]; done) | (simp_all [-Int32.not_lt, -Int32.not_le, okL, okV, okO, okR, okD, isP, shP, t_dist, tW, tL, tV, tO, tD, tLV, up_id]; done))).1, by rw [ht]; exact hM.2.1, fun q hq => by rw [ht]; exact hM.2.2.1 q hq⟩) hM.2.2.2 dX7_distance_44
        · refine lv_iconst (v := 0) hx hb dX7_distance_34 (by decide) ?_
          refine lv_goto (tgt := 44) hx hb dX7_distance_35 (by decide) ?_
          exact W.iret (v := 0) hx hb hr (fun t ht hW => ⟨congrArg (fun z => Outcome.returned (some (Value.int z))) (by first | rfl | (simp [-Int32.not_lt, -Int32.not_le, okL, okV, okO, okR, okD, isP, shP, t_dist, tW, tL, tV, tO, tD, tLV, c_1, c_2, c_3, c_4]; done) | (simp_all [-Int32.not_lt, -Int32.not_le, okL, okV, okO, okR, okD, isP, shP, t_dist, tW, tL, tV, tO, tD, tLV]; done)), by rw [ht]; exact (hM.cg (by first | rfl | (simp [-Int32.not_lt, -Int32.not_le, okL, okV, okO, okR, okD, isP, shP, t_dist, tW, tL, tV, tO, tD, tLV, c_1, c_2, c_3, c_4, up_id]; done) | (simp_all [-Int32.not_lt, -Int32.not_le, okL, okV, okO, okR, okD, isP, shP, t_dist, tW, tL, tV, tO, tD, tLV, up_id]; done))).1, by rw [ht]; exact hM.2.1, fun q hq => by rw [ht]; exact hM.2.2.1 q hq⟩) hM.2.2.2 dX7_distance_44
    · replace hM := hM.cg (congrArg (fun z => up σ 0 0 z) (if_neg c_2))
      refine lv_iconst (v := 0) hx hb dX7_distance_16 (by decide) ?_
      exact W.iret (v := 0) hx hb hr (fun t ht hW => ⟨congrArg (fun z => Outcome.returned (some (Value.int z))) (by first | rfl | (simp [-Int32.not_lt, -Int32.not_le, okL, okV, okO, okR, okD, isP, shP, t_dist, tW, tL, tV, tO, tD, tLV, c_1, c_2]; done) | (simp_all [-Int32.not_lt, -Int32.not_le, okL, okV, okO, okR, okD, isP, shP, t_dist, tW, tL, tV, tO, tD, tLV]; done)), by rw [ht]; exact (hM.cg (by first | rfl | (simp [-Int32.not_lt, -Int32.not_le, okL, okV, okO, okR, okD, isP, shP, t_dist, tW, tL, tV, tO, tD, tLV, c_1, c_2, up_id]; done) | (simp_all [-Int32.not_lt, -Int32.not_le, okL, okV, okO, okR, okD, isP, shP, t_dist, tW, tL, tV, tO, tD, tLV, up_id]; done))).1, by rw [ht]; exact hM.2.1, fun q hq => by rw [ht]; exact hM.2.2.1 q hq⟩) hM.2.2.2 dX7_distance_17
set_option maxHeartbeats 4000000 in
set_option maxRecDepth 100000 in
theorem k_clock (la : Launch) (g : EG) (lo : Nat) (ma : Nat → Nat) (hA : MA lo ma) (σ : Sg) (u : Nat → Int64) (v : Int32) (hI : INV σ) : Met la yX7_clock wsX7_clock ({ frames := 2, cells := 0, slots := 0, locals := 43 } : Room) (va_Pc [.ref (ma 0), .int v] (fun U => MR g ma σ u U.heap ∧ KK g U)) (QM (.returned (some (.int (if okV σ v then σ 25 (ti v) else 0)))) (fun H1 => MR g ma (up σ 0 0 (tV σ v)) u H1) (mown ma)) 0 0 (fun q => lo ≤ q) := by
  refine Met.ofW (cc := cX7_clock) (maxL := 2) (ret := (some .int)) (by decide) rfl ?_
  intro p e s m args below meth c s₁ B hml hv
  obtain ⟨rfl, hR0, hK⟩ := hv
  have hx := B.exec
  have hb := B.bytes
  have hr := B.returns
  have hts := atoms_spec (ws := wsX7_clock) B.pre
  have hown : s.vm.findClass RX7 = some m.cls := findClass_of_methodNamed B.named
  have hlocks := B.notSynchronized
  have hM : MS g lo ma σ u s.heap s.heap [] := MS.start hR0
  have hinX7 : ∀ w ∈ wsX70, w ∈ wsX7_clock := by decide +kernel
  have lk72 := hts (.fieldLink RX7 72 "DyehouseLedgerModel" "clock" "[I") (by decide +kernel)
  have hl := lv_entry ([.ref (ma 0), .int v]) (n := 2) (Nat.le_of_ble_eq_true rfl)
  rw [lg_entry_eq]
  generalize (lg_sl ([.ref (ma 0), .int v]) ++ List.replicate (2 - (lg_sl ([.ref (ma 0), .int v])).length) Slot.unset).toArray = ls at hl ⊢
  have hl : lv_has ls 2 [(0, .ref (ma 0)), (1, .int v)] := hl
  refine lv_aload_n hx hb dX7_clock_0 rfl (lv_at hl 0 rfl) ?_
  refine lv_iload_n hx hb dX7_clock_1 rfl (lv_at hl 1 rfl) ?_
  refine mc_mu (n := 1) (As := [.int v]) (rest := []) (v := [.int (if ¬ okV σ v then 1 else 0)]) ⟨hx, hb, hml, hown, hts⟩ hK hM (k_noVat la g lo ma hA σ u v ) gX7_clock_X7_noVat rfl rfl rfl (by decide +kernel) ⟨Nat.le_of_ble_eq_true rfl, Nat.le_of_ble_eq_true rfl⟩ rfl hl.1 rfl (Nat.le_of_ble_eq_true rfl) dX7_clock_2 ⟨Nat.zero_le _, Nat.zero_le _⟩ rfl (fun H locs hM => ?_)
  refine br_if_eq (c9 := ¬ okV σ v) (tgt := 12) hx hb dX7_clock_5 (by decide) (fun c_1 => ?_) (fun c_1 => ?_)
  · replace c_1 := Decidable.not_not.mp c_1
    replace hM := hM.cg (congrArg (fun z => up σ 0 0 z) (if_pos c_1))
    have kv := (okV_in hI v).mp c_1
    refine lv_aload_n hx hb dX7_clock_12 rfl (lv_at hl 0 rfl) ?_
    refine m_get (v := .ref (ma 25)) hx hb hts hinX7 hown hK hM 25 (by decide) lk72 rfl dX7_clock_13 ?_
    refine lv_iload_n hx hb dX7_clock_16 rfl (lv_at hl 1 rfl) ?_
    refine m_iald (x := (σ 25 (ti v))) hx hb hK hM 25 (by decide) rfl (i := v) (n := 4) (vat4 hI kv) rfl dX7_clock_17 ?_
    exact W.iret (v := (σ 25 (ti v))) hx hb hr (fun t ht hW => ⟨congrArg (fun z => Outcome.returned (some (Value.int z))) (by first | rfl | (simp [-Int32.not_lt, -Int32.not_le, okL, okV, okO, okR, okD, isP, shP, tL, tV, tO, tD, tLV, c_1]; done) | (simp_all [-Int32.not_lt, -Int32.not_le, okL, okV, okO, okR, okD, isP, shP, tL, tV, tO, tD, tLV]; done)), by rw [ht]; exact (hM.cg (by first | rfl | (simp [-Int32.not_lt, -Int32.not_le, okL, okV, okO, okR, okD, isP, shP, tL, tV, tO, tD, tLV, c_1, up_id]; done) | (simp_all [-Int32.not_lt, -Int32.not_le, okL, okV, okO, okR, okD, isP, shP, tL, tV, tO, tD, tLV, up_id]; done))).1, by rw [ht]; exact hM.2.1, fun q hq => by rw [ht]; exact hM.2.2.1 q hq⟩) hM.2.2.2 dX7_clock_18
  · replace hM := hM.cg (congrArg (fun z => up σ 0 0 z) (if_neg c_1))
    refine lv_iconst (v := 0) hx hb dX7_clock_8 (by decide) ?_
    refine lv_goto (tgt := 18) hx hb dX7_clock_9 (by decide) ?_
    exact W.iret (v := 0) hx hb hr (fun t ht hW => ⟨congrArg (fun z => Outcome.returned (some (Value.int z))) (by first | rfl | (simp [-Int32.not_lt, -Int32.not_le, okL, okV, okO, okR, okD, isP, shP, tL, tV, tO, tD, tLV, c_1]; done) | (simp_all [-Int32.not_lt, -Int32.not_le, okL, okV, okO, okR, okD, isP, shP, tL, tV, tO, tD, tLV]; done)), by rw [ht]; exact (hM.cg (by first | rfl | (simp [-Int32.not_lt, -Int32.not_le, okL, okV, okO, okR, okD, isP, shP, tL, tV, tO, tD, tLV, c_1, up_id]; done) | (simp_all [-Int32.not_lt, -Int32.not_le, okL, okV, okO, okR, okD, isP, shP, tL, tV, tO, tD, tLV, up_id]; done))).1, by rw [ht]; exact hM.2.1, fun q hq => by rw [ht]; exact hM.2.2.1 q hq⟩) hM.2.2.2 dX7_clock_18
set_option maxHeartbeats 4000000 in
set_option maxRecDepth 100000 in
theorem k_cleanings (la : Launch) (g : EG) (lo : Nat) (ma : Nat → Nat) (hA : MA lo ma) (σ : Sg) (u : Nat → Int64) (v : Int32) (hI : INV σ) : Met la yX7_cleanings wsX7_cleanings ({ frames := 2, cells := 0, slots := 0, locals := 43 } : Room) (va_Pc [.ref (ma 0), .int v] (fun U => MR g ma σ u U.heap ∧ KK g U)) (QM (.returned (some (.int (if okV σ v then σ 26 (ti v) else 0)))) (fun H1 => MR g ma (up σ 0 0 (tV σ v)) u H1) (mown ma)) 0 0 (fun q => lo ≤ q) := by
  refine Met.ofW (cc := cX7_cleanings) (maxL := 2) (ret := (some .int)) (by decide) rfl ?_
  intro p e s m args below meth c s₁ B hml hv
  obtain ⟨rfl, hR0, hK⟩ := hv
  have hx := B.exec
  have hb := B.bytes
  have hr := B.returns
  have hts := atoms_spec (ws := wsX7_cleanings) B.pre
  have hown : s.vm.findClass RX7 = some m.cls := findClass_of_methodNamed B.named
  have hlocks := B.notSynchronized
  have hM : MS g lo ma σ u s.heap s.heap [] := MS.start hR0
  have hinX7 : ∀ w ∈ wsX70, w ∈ wsX7_cleanings := by decide +kernel
  have lk75 := hts (.fieldLink RX7 75 "DyehouseLedgerModel" "cleanings" "[I") (by decide +kernel)
  have hl := lv_entry ([.ref (ma 0), .int v]) (n := 2) (Nat.le_of_ble_eq_true rfl)
  rw [lg_entry_eq]
  generalize (lg_sl ([.ref (ma 0), .int v]) ++ List.replicate (2 - (lg_sl ([.ref (ma 0), .int v])).length) Slot.unset).toArray = ls at hl ⊢
  have hl : lv_has ls 2 [(0, .ref (ma 0)), (1, .int v)] := hl
  refine lv_aload_n hx hb dX7_cleanings_0 rfl (lv_at hl 0 rfl) ?_
  refine lv_iload_n hx hb dX7_cleanings_1 rfl (lv_at hl 1 rfl) ?_
  refine mc_mu (n := 1) (As := [.int v]) (rest := []) (v := [.int (if ¬ okV σ v then 1 else 0)]) ⟨hx, hb, hml, hown, hts⟩ hK hM (k_noVat la g lo ma hA σ u v ) gX7_cleanings_X7_noVat rfl rfl rfl (by decide +kernel) ⟨Nat.le_of_ble_eq_true rfl, Nat.le_of_ble_eq_true rfl⟩ rfl hl.1 rfl (Nat.le_of_ble_eq_true rfl) dX7_cleanings_2 ⟨Nat.zero_le _, Nat.zero_le _⟩ rfl (fun H locs hM => ?_)
  refine br_if_eq (c9 := ¬ okV σ v) (tgt := 12) hx hb dX7_cleanings_5 (by decide) (fun c_1 => ?_) (fun c_1 => ?_)
  · replace c_1 := Decidable.not_not.mp c_1
    replace hM := hM.cg (congrArg (fun z => up σ 0 0 z) (if_pos c_1))
    have kv := (okV_in hI v).mp c_1
    refine lv_aload_n hx hb dX7_cleanings_12 rfl (lv_at hl 0 rfl) ?_
    refine m_get (v := .ref (ma 26)) hx hb hts hinX7 hown hK hM 26 (by decide) lk75 rfl dX7_cleanings_13 ?_
    refine lv_iload_n hx hb dX7_cleanings_16 rfl (lv_at hl 1 rfl) ?_
    refine m_iald (x := (σ 26 (ti v))) hx hb hK hM 26 (by decide) rfl (i := v) (n := 4) (vat4 hI kv) rfl dX7_cleanings_17 ?_
    exact W.iret (v := (σ 26 (ti v))) hx hb hr (fun t ht hW => ⟨congrArg (fun z => Outcome.returned (some (Value.int z))) (by first | rfl | (simp [-Int32.not_lt, -Int32.not_le, okL, okV, okO, okR, okD, isP, shP, tL, tV, tO, tD, tLV, c_1]; done) | (simp_all [-Int32.not_lt, -Int32.not_le, okL, okV, okO, okR, okD, isP, shP, tL, tV, tO, tD, tLV]; done)), by rw [ht]; exact (hM.cg (by first | rfl | (simp [-Int32.not_lt, -Int32.not_le, okL, okV, okO, okR, okD, isP, shP, tL, tV, tO, tD, tLV, c_1, up_id]; done) | (simp_all [-Int32.not_lt, -Int32.not_le, okL, okV, okO, okR, okD, isP, shP, tL, tV, tO, tD, tLV, up_id]; done))).1, by rw [ht]; exact hM.2.1, fun q hq => by rw [ht]; exact hM.2.2.1 q hq⟩) hM.2.2.2 dX7_cleanings_18
  · replace hM := hM.cg (congrArg (fun z => up σ 0 0 z) (if_neg c_1))
    refine lv_iconst (v := 0) hx hb dX7_cleanings_8 (by decide) ?_
    refine lv_goto (tgt := 18) hx hb dX7_cleanings_9 (by decide) ?_
    exact W.iret (v := 0) hx hb hr (fun t ht hW => ⟨congrArg (fun z => Outcome.returned (some (Value.int z))) (by first | rfl | (simp [-Int32.not_lt, -Int32.not_le, okL, okV, okO, okR, okD, isP, shP, tL, tV, tO, tD, tLV, c_1]; done) | (simp_all [-Int32.not_lt, -Int32.not_le, okL, okV, okO, okR, okD, isP, shP, tL, tV, tO, tD, tLV]; done)), by rw [ht]; exact (hM.cg (by first | rfl | (simp [-Int32.not_lt, -Int32.not_le, okL, okV, okO, okR, okD, isP, shP, tL, tV, tO, tD, tLV, c_1, up_id]; done) | (simp_all [-Int32.not_lt, -Int32.not_le, okL, okV, okO, okR, okD, isP, shP, tL, tV, tO, tD, tLV, up_id]; done))).1, by rw [ht]; exact hM.2.1, fun q hq => by rw [ht]; exact hM.2.2.1 q hq⟩) hM.2.2.2 dX7_cleanings_18
set_option maxHeartbeats 4000000 in
set_option maxRecDepth 100000 in
theorem k_lightIn (la : Launch) (g : EG) (lo : Nat) (ma : Nat → Nat) (hA : MA lo ma) (σ : Sg) (u : Nat → Int64) (v : Int32) (hI : INV σ) : Met la yX7_lightIn wsX7_lightIn ({ frames := 2, cells := 0, slots := 0, locals := 43 } : Room) (va_Pc [.ref (ma 0), .int v] (fun U => MR g ma σ u U.heap ∧ KK g U)) (QM (.returned (some (.int (if t_cell σ 23 v = 0 then σ 23 (ti v) else 0)))) (fun H1 => MR g ma (up σ 0 0 (t_cell σ 23 v)) u H1) (mown ma)) 0 0 (fun q => lo ≤ q) := by
  refine Met.ofW (cc := cX7_lightIn) (maxL := 2) (ret := (some .int)) (by decide) rfl ?_
  intro p e s m args below meth c s₁ B hml hv
  obtain ⟨rfl, hR0, hK⟩ := hv
  have hx := B.exec
  have hb := B.bytes
  have hr := B.returns
  have hts := atoms_spec (ws := wsX7_lightIn) B.pre
  have hown : s.vm.findClass RX7 = some m.cls := findClass_of_methodNamed B.named
  have hlocks := B.notSynchronized
  have hM : MS g lo ma σ u s.heap s.heap [] := MS.start hR0
  have hinX7 : ∀ w ∈ wsX70, w ∈ wsX7_lightIn := by decide +kernel
  have lk66 := hts (.fieldLink RX7 66 "DyehouseLedgerModel" "light" "[I") (by decide +kernel)
  have hl := lv_entry ([.ref (ma 0), .int v]) (n := 2) (Nat.le_of_ble_eq_true rfl)
  rw [lg_entry_eq]
  generalize (lg_sl ([.ref (ma 0), .int v]) ++ List.replicate (2 - (lg_sl ([.ref (ma 0), .int v])).length) Slot.unset).toArray = ls at hl ⊢
  have hl : lv_has ls 2 [(0, .ref (ma 0)), (1, .int v)] := hl
  refine lv_aload_n hx hb dX7_lightIn_0 rfl (lv_at hl 0 rfl) ?_
  refine lv_iload_n hx hb dX7_lightIn_1 rfl (lv_at hl 1 rfl) ?_
  refine mc_mu (n := 1) (As := [.int v]) (rest := []) (v := [.int (if ¬ okV σ v then 1 else 0)]) ⟨hx, hb, hml, hown, hts⟩ hK hM (k_noVat la g lo ma hA σ u v ) gX7_lightIn_X7_noVat rfl rfl rfl (by decide +kernel) ⟨Nat.le_of_ble_eq_true rfl, Nat.le_of_ble_eq_true rfl⟩ rfl hl.1 rfl (Nat.le_of_ble_eq_true rfl) dX7_lightIn_2 ⟨Nat.zero_le _, Nat.zero_le _⟩ rfl (fun H locs hM => ?_)
  refine br_if_eq (c9 := ¬ okV σ v) (tgt := 10) hx hb dX7_lightIn_5 (by decide) (fun c_1 => ?_) (fun c_1 => ?_)
  · replace c_1 := Decidable.not_not.mp c_1
    replace hM := hM.cg (congrArg (fun z => up σ 0 0 z) (if_pos c_1))
    have kv := (okV_in hI v).mp c_1
    refine lv_aload_n hx hb dX7_lightIn_10 rfl (lv_at hl 0 rfl) ?_
    refine m_get (v := .ref (ma 23)) hx hb hts hinX7 hown hK hM 23 (by decide) lk66 rfl dX7_lightIn_11 ?_
    refine lv_iload_n hx hb dX7_lightIn_14 rfl (lv_at hl 1 rfl) ?_
    refine m_iald (x := (σ 23 (ti v))) hx hb hK hM 23 (by decide) rfl (i := v) (n := 4) (vat4 hI kv) rfl dX7_lightIn_15 ?_
    refine lv_iconst (v := (-1)) hx hb dX7_lightIn_16 (by decide) ?_
    refine lv_icmp_ne (tgt := 26) hx hb dX7_lightIn_17 (by decide) (fun c_2 => ?_) (fun c_2 => ?_)
    · refine lv_aload_n hx hb dX7_lightIn_26 rfl (lv_at hl 0 rfl) ?_
      refine m_get (v := .ref (ma 23)) hx hb hts hinX7 hown hK hM 23 (by decide) lk66 rfl dX7_lightIn_27 ?_
      refine lv_iload_n hx hb dX7_lightIn_30 rfl (lv_at hl 1 rfl) ?_
      refine m_iald (x := (σ 23 (ti v))) hx hb hK hM 23 (by decide) rfl (i := v) (n := 4) (vat4 hI kv) rfl dX7_lightIn_31 ?_
      exact W.iret (v := (σ 23 (ti v))) hx hb hr (fun t ht hW => ⟨congrArg (fun z => Outcome.returned (some (Value.int z))) (by first | rfl | (simp [-Int32.not_lt, -Int32.not_le, okL, okV, okO, okR, okD, isP, shP, t_cell, tL, tV, tO, tD, tLV, c_1, c_2]; done) | (simp_all [-Int32.not_lt, -Int32.not_le, okL, okV, okO, okR, okD, isP, shP, t_cell, tL, tV, tO, tD, tLV]; done)), by rw [ht]; exact (hM.cg (by first | rfl | (simp [-Int32.not_lt, -Int32.not_le, okL, okV, okO, okR, okD, isP, shP, t_cell, tL, tV, tO, tD, tLV, c_1, c_2, up_id]; done) | (simp_all [-Int32.not_lt, -Int32.not_le, okL, okV, okO, okR, okD, isP, shP, t_cell, tL, tV, tO, tD, tLV, up_id]; done))).1, by rw [ht]; exact hM.2.1, fun q hq => by rw [ht]; exact hM.2.2.1 q hq⟩) hM.2.2.2 dX7_lightIn_32
    · refine lv_aload_n hx hb dX7_lightIn_20 rfl (lv_at hl 0 rfl) ?_
      refine lv_iconst (v := 2) hx hb dX7_lightIn_21 (by decide) ?_
      refine mc_mu (n := 1) (As := [.int 2]) (rest := []) (v := [.int 0]) ⟨hx, hb, hml, hown, hts⟩ hK hM (k_refuse la g lo ma hA (up σ 0 0 0) u 2 ) gX7_lightIn_X7_refuse rfl rfl rfl (by decide +kernel) ⟨Nat.le_of_ble_eq_true rfl, Nat.le_of_ble_eq_true rfl⟩ rfl hl.1 rfl (Nat.le_of_ble_eq_true rfl) dX7_lightIn_22 ⟨Nat.zero_le _, Nat.zero_le _⟩ rfl (fun H locs hM => ?_)
      replace hM := hM.cg (up_up σ 0 0 0 2)
      exact W.iret (v := 0) hx hb hr (fun t ht hW => ⟨congrArg (fun z => Outcome.returned (some (Value.int z))) (by first | rfl | (simp [-Int32.not_lt, -Int32.not_le, okL, okV, okO, okR, okD, isP, shP, t_cell, tL, tV, tO, tD, tLV, c_1, c_2]; done) | (simp_all [-Int32.not_lt, -Int32.not_le, okL, okV, okO, okR, okD, isP, shP, t_cell, tL, tV, tO, tD, tLV]; done)), by rw [ht]; exact (hM.cg (by first | rfl | (simp [-Int32.not_lt, -Int32.not_le, okL, okV, okO, okR, okD, isP, shP, t_cell, tL, tV, tO, tD, tLV, c_1, c_2, up_id]; done) | (simp_all [-Int32.not_lt, -Int32.not_le, okL, okV, okO, okR, okD, isP, shP, t_cell, tL, tV, tO, tD, tLV, up_id]; done))).1, by rw [ht]; exact hM.2.1, fun q hq => by rw [ht]; exact hM.2.2.1 q hq⟩) hM.2.2.2 dX7_lightIn_25
  · replace hM := hM.cg (congrArg (fun z => up σ 0 0 z) (if_neg c_1))
    refine lv_iconst (v := 0) hx hb dX7_lightIn_8 (by decide) ?_
    exact W.iret (v := 0) hx hb hr (fun t ht hW => ⟨congrArg (fun z => Outcome.returned (some (Value.int z))) (by first | rfl | (simp [-Int32.not_lt, -Int32.not_le, okL, okV, okO, okR, okD, isP, shP, t_cell, tL, tV, tO, tD, tLV, c_1]; done) | (simp_all [-Int32.not_lt, -Int32.not_le, okL, okV, okO, okR, okD, isP, shP, t_cell, tL, tV, tO, tD, tLV]; done)), by rw [ht]; exact (hM.cg (by first | rfl | (simp [-Int32.not_lt, -Int32.not_le, okL, okV, okO, okR, okD, isP, shP, t_cell, tL, tV, tO, tD, tLV, c_1, up_id]; done) | (simp_all [-Int32.not_lt, -Int32.not_le, okL, okV, okO, okR, okD, isP, shP, t_cell, tL, tV, tO, tD, tLV, up_id]; done))).1, by rw [ht]; exact hM.2.1, fun q hq => by rw [ht]; exact hM.2.2.1 q hq⟩) hM.2.2.2 dX7_lightIn_9
set_option maxHeartbeats 4000000 in
set_option maxRecDepth 100000 in
theorem k_customerOf (la : Launch) (g : EG) (lo : Nat) (ma : Nat → Nat) (hA : MA lo ma) (σ : Sg) (u : Nat → Int64) (v : Int32) (hI : INV σ) : Met la yX7_customerOf wsX7_customerOf ({ frames := 2, cells := 0, slots := 0, locals := 43 } : Room) (va_Pc [.ref (ma 0), .int v] (fun U => MR g ma σ u U.heap ∧ KK g U)) (QM (.returned (some (.int (if t_cell σ 24 v = 0 then σ 24 (ti v) else 0)))) (fun H1 => MR g ma (up σ 0 0 (t_cell σ 24 v)) u H1) (mown ma)) 0 0 (fun q => lo ≤ q) := by
  refine Met.ofW (cc := cX7_customerOf) (maxL := 2) (ret := (some .int)) (by decide) rfl ?_
  intro p e s m args below meth c s₁ B hml hv
  obtain ⟨rfl, hR0, hK⟩ := hv
  have hx := B.exec
  have hb := B.bytes
  have hr := B.returns
  have hts := atoms_spec (ws := wsX7_customerOf) B.pre
  have hown : s.vm.findClass RX7 = some m.cls := findClass_of_methodNamed B.named
  have hlocks := B.notSynchronized
  have hM : MS g lo ma σ u s.heap s.heap [] := MS.start hR0
  have hinX7 : ∀ w ∈ wsX70, w ∈ wsX7_customerOf := by decide +kernel
  have lk69 := hts (.fieldLink RX7 69 "DyehouseLedgerModel" "barred" "[I") (by decide +kernel)
  have hl := lv_entry ([.ref (ma 0), .int v]) (n := 2) (Nat.le_of_ble_eq_true rfl)
  rw [lg_entry_eq]
  generalize (lg_sl ([.ref (ma 0), .int v]) ++ List.replicate (2 - (lg_sl ([.ref (ma 0), .int v])).length) Slot.unset).toArray = ls at hl ⊢
  have hl : lv_has ls 2 [(0, .ref (ma 0)), (1, .int v)] := hl
  refine lv_aload_n hx hb dX7_customerOf_0 rfl (lv_at hl 0 rfl) ?_
  refine lv_iload_n hx hb dX7_customerOf_1 rfl (lv_at hl 1 rfl) ?_
  refine mc_mu (n := 1) (As := [.int v]) (rest := []) (v := [.int (if ¬ okV σ v then 1 else 0)]) ⟨hx, hb, hml, hown, hts⟩ hK hM (k_noVat la g lo ma hA σ u v ) gX7_customerOf_X7_noVat rfl rfl rfl (by decide +kernel) ⟨Nat.le_of_ble_eq_true rfl, Nat.le_of_ble_eq_true rfl⟩ rfl hl.1 rfl (Nat.le_of_ble_eq_true rfl) dX7_customerOf_2 ⟨Nat.zero_le _, Nat.zero_le _⟩ rfl (fun H locs hM => ?_)
  refine br_if_eq (c9 := ¬ okV σ v) (tgt := 10) hx hb dX7_customerOf_5 (by decide) (fun c_1 => ?_) (fun c_1 => ?_)
  · replace c_1 := Decidable.not_not.mp c_1
    replace hM := hM.cg (congrArg (fun z => up σ 0 0 z) (if_pos c_1))
    have kv := (okV_in hI v).mp c_1
    refine lv_aload_n hx hb dX7_customerOf_10 rfl (lv_at hl 0 rfl) ?_
    refine m_get (v := .ref (ma 24)) hx hb hts hinX7 hown hK hM 24 (by decide) lk69 rfl dX7_customerOf_11 ?_
    refine lv_iload_n hx hb dX7_customerOf_14 rfl (lv_at hl 1 rfl) ?_
    refine m_iald (x := (σ 24 (ti v))) hx hb hK hM 24 (by decide) rfl (i := v) (n := 4) (vat4 hI kv) rfl dX7_customerOf_15 ?_
    refine lv_iconst (v := (-1)) hx hb dX7_customerOf_16 (by decide) ?_
    refine lv_icmp_ne (tgt := 26) hx hb dX7_customerOf_17 (by decide) (fun c_2 => ?_) (fun c_2 => ?_)
    · refine lv_aload_n hx hb dX7_customerOf_26 rfl (lv_at hl 0 rfl) ?_
      refine m_get (v := .ref (ma 24)) hx hb hts hinX7 hown hK hM 24 (by decide) lk69 rfl dX7_customerOf_27 ?_
      refine lv_iload_n hx hb dX7_customerOf_30 rfl (lv_at hl 1 rfl) ?_
      refine m_iald (x := (σ 24 (ti v))) hx hb hK hM 24 (by decide) rfl (i := v) (n := 4) (vat4 hI kv) rfl dX7_customerOf_31 ?_
      exact W.iret (v := (σ 24 (ti v))) hx hb hr (fun t ht hW => ⟨congrArg (fun z => Outcome.returned (some (Value.int z))) (by first | rfl | (simp [-Int32.not_lt, -Int32.not_le, okL, okV, okO, okR, okD, isP, shP, t_cell, tL, tV, tO, tD, tLV, c_1, c_2]; done) | (simp_all [-Int32.not_lt, -Int32.not_le, okL, okV, okO, okR, okD, isP, shP, t_cell, tL, tV, tO, tD, tLV]; done)), by rw [ht]; exact (hM.cg (by first | rfl | (simp [-Int32.not_lt, -Int32.not_le, okL, okV, okO, okR, okD, isP, shP, t_cell, tL, tV, tO, tD, tLV, c_1, c_2, up_id]; done) | (simp_all [-Int32.not_lt, -Int32.not_le, okL, okV, okO, okR, okD, isP, shP, t_cell, tL, tV, tO, tD, tLV, up_id]; done))).1, by rw [ht]; exact hM.2.1, fun q hq => by rw [ht]; exact hM.2.2.1 q hq⟩) hM.2.2.2 dX7_customerOf_32
    · refine lv_aload_n hx hb dX7_customerOf_20 rfl (lv_at hl 0 rfl) ?_
      refine lv_iconst (v := 2) hx hb dX7_customerOf_21 (by decide) ?_
      refine mc_mu (n := 1) (As := [.int 2]) (rest := []) (v := [.int 0]) ⟨hx, hb, hml, hown, hts⟩ hK hM (k_refuse la g lo ma hA (up σ 0 0 0) u 2 ) gX7_customerOf_X7_refuse rfl rfl rfl (by decide +kernel) ⟨Nat.le_of_ble_eq_true rfl, Nat.le_of_ble_eq_true rfl⟩ rfl hl.1 rfl (Nat.le_of_ble_eq_true rfl) dX7_customerOf_22 ⟨Nat.zero_le _, Nat.zero_le _⟩ rfl (fun H locs hM => ?_)
      replace hM := hM.cg (up_up σ 0 0 0 2)
      exact W.iret (v := 0) hx hb hr (fun t ht hW => ⟨congrArg (fun z => Outcome.returned (some (Value.int z))) (by first | rfl | (simp [-Int32.not_lt, -Int32.not_le, okL, okV, okO, okR, okD, isP, shP, t_cell, tL, tV, tO, tD, tLV, c_1, c_2]; done) | (simp_all [-Int32.not_lt, -Int32.not_le, okL, okV, okO, okR, okD, isP, shP, t_cell, tL, tV, tO, tD, tLV]; done)), by rw [ht]; exact (hM.cg (by first | rfl | (simp [-Int32.not_lt, -Int32.not_le, okL, okV, okO, okR, okD, isP, shP, t_cell, tL, tV, tO, tD, tLV, c_1, c_2, up_id]; done) | (simp_all [-Int32.not_lt, -Int32.not_le, okL, okV, okO, okR, okD, isP, shP, t_cell, tL, tV, tO, tD, tLV, up_id]; done))).1, by rw [ht]; exact hM.2.1, fun q hq => by rw [ht]; exact hM.2.2.1 q hq⟩) hM.2.2.2 dX7_customerOf_25
  · replace hM := hM.cg (congrArg (fun z => up σ 0 0 z) (if_neg c_1))
    refine lv_iconst (v := 0) hx hb dX7_customerOf_8 (by decide) ?_
    exact W.iret (v := 0) hx hb hr (fun t ht hW => ⟨congrArg (fun z => Outcome.returned (some (Value.int z))) (by first | rfl | (simp [-Int32.not_lt, -Int32.not_le, okL, okV, okO, okR, okD, isP, shP, t_cell, tL, tV, tO, tD, tLV, c_1]; done) | (simp_all [-Int32.not_lt, -Int32.not_le, okL, okV, okO, okR, okD, isP, shP, t_cell, tL, tV, tO, tD, tLV]; done)), by rw [ht]; exact (hM.cg (by first | rfl | (simp [-Int32.not_lt, -Int32.not_le, okL, okV, okO, okR, okD, isP, shP, t_cell, tL, tV, tO, tD, tLV, c_1, up_id]; done) | (simp_all [-Int32.not_lt, -Int32.not_le, okL, okV, okO, okR, okD, isP, shP, t_cell, tL, tV, tO, tD, tLV, up_id]; done))).1, by rw [ht]; exact hM.2.1, fun q hq => by rw [ht]; exact hM.2.2.1 q hq⟩) hM.2.2.2 dX7_customerOf_9
set_option maxHeartbeats 4000000 in
set_option maxRecDepth 100000 in
theorem k_lateBy (la : Launch) (g : EG) (lo : Nat) (ma : Nat → Nat) (hA : MA lo ma) (σ : Sg) (u : Nat → Int64) (o : Int32) (hI : INV σ) : Met la yX7_lateBy wsX7_lateBy ({ frames := 2, cells := 0, slots := 0, locals := 43 } : Room) (va_Pc [.ref (ma 0), .int o] (fun U => MR g ma σ u U.heap ∧ KK g U)) (QM (.returned (some (.int (if okO σ o then f_late σ o else 0)))) (fun H1 => MR g ma (up σ 0 0 (tO σ o)) u H1) (mown ma)) 0 0 (fun q => lo ≤ q) := by
  refine Met.ofW (cc := cX7_lateBy) (maxL := 2) (ret := (some .int)) (by decide) rfl ?_
  intro p e s m args below meth c s₁ B hml hv
  obtain ⟨rfl, hR0, hK⟩ := hv
  have hx := B.exec
  have hb := B.bytes
  have hr := B.returns
  have hts := atoms_spec (ws := wsX7_lateBy) B.pre
  have hown : s.vm.findClass RX7 = some m.cls := findClass_of_methodNamed B.named
  have hlocks := B.notSynchronized
  have hM : MS g lo ma σ u s.heap s.heap [] := MS.start hR0
  have hl := lv_entry ([.ref (ma 0), .int o]) (n := 2) (Nat.le_of_ble_eq_true rfl)
  rw [lg_entry_eq]
  generalize (lg_sl ([.ref (ma 0), .int o]) ++ List.replicate (2 - (lg_sl ([.ref (ma 0), .int o])).length) Slot.unset).toArray = ls at hl ⊢
  have hl : lv_has ls 2 [(0, .ref (ma 0)), (1, .int o)] := hl
  refine lv_aload_n hx hb dX7_lateBy_0 rfl (lv_at hl 0 rfl) ?_
  refine lv_iload_n hx hb dX7_lateBy_1 rfl (lv_at hl 1 rfl) ?_
  refine mc_mu (n := 1) (As := [.int o]) (rest := []) (v := [.int (if ¬ okO σ o then 1 else 0)]) ⟨hx, hb, hml, hown, hts⟩ hK hM (k_noOrder la g lo ma hA σ u o ) gX7_lateBy_X7_noOrder rfl rfl rfl (by decide +kernel) ⟨Nat.le_of_ble_eq_true rfl, Nat.le_of_ble_eq_true rfl⟩ rfl hl.1 rfl (Nat.le_of_ble_eq_true rfl) dX7_lateBy_2 ⟨Nat.zero_le _, Nat.zero_le _⟩ rfl (fun H locs hM => ?_)
  refine br_if_eq (c9 := ¬ okO σ o) (tgt := 12) hx hb dX7_lateBy_5 (by decide) (fun c_1 => ?_) (fun c_1 => ?_)
  · replace c_1 := Decidable.not_not.mp c_1
    replace hM := hM.cg (congrArg (fun z => up σ 0 0 z) (if_pos c_1))
    have ko := (okO_in hI o).mp c_1
    refine lv_aload_n hx hb dX7_lateBy_12 rfl (lv_at hl 0 rfl) ?_
    refine lv_iload_n hx hb dX7_lateBy_13 rfl (lv_at hl 1 rfl) ?_
    refine mc_ro (n := 1) (As := [.int o]) (rest := []) (v := [.int (f_late σ o)]) ⟨hx, hb, hml, hown, hts⟩ hK hM (k_late la g ma (up σ 0 0 0) u o (hI.up0 _) ko) gX7_lateBy_X7_late rfl rfl rfl (by decide +kernel) ⟨Nat.le_of_ble_eq_true rfl, Nat.le_of_ble_eq_true rfl⟩ rfl hl.1 rfl (Nat.le_of_ble_eq_true rfl) dX7_lateBy_14 ⟨Nat.zero_le _, Nat.zero_le _⟩ (congrArg (fun z => [Value.int z]) (late_up _ _ _)) ?_
    exact W.iret (v := (f_late σ o)) hx hb hr (fun t ht hW => ⟨congrArg (fun z => Outcome.returned (some (Value.int z))) (by first | rfl | (simp [-Int32.not_lt, -Int32.not_le, okL, okV, okO, okR, okD, isP, shP, tL, tV, tO, tD, tLV, c_1]; done) | (simp_all [-Int32.not_lt, -Int32.not_le, okL, okV, okO, okR, okD, isP, shP, tL, tV, tO, tD, tLV]; done)), by rw [ht]; exact (hM.cg (by first | rfl | (simp [-Int32.not_lt, -Int32.not_le, okL, okV, okO, okR, okD, isP, shP, tL, tV, tO, tD, tLV, c_1, up_id]; done) | (simp_all [-Int32.not_lt, -Int32.not_le, okL, okV, okO, okR, okD, isP, shP, tL, tV, tO, tD, tLV, up_id]; done))).1, by rw [ht]; exact hM.2.1, fun q hq => by rw [ht]; exact hM.2.2.1 q hq⟩) hM.2.2.2 dX7_lateBy_17
  · replace hM := hM.cg (congrArg (fun z => up σ 0 0 z) (if_neg c_1))
    refine lv_iconst (v := 0) hx hb dX7_lateBy_8 (by decide) ?_
    refine lv_goto (tgt := 17) hx hb dX7_lateBy_9 (by decide) ?_
    exact W.iret (v := 0) hx hb hr (fun t ht hW => ⟨congrArg (fun z => Outcome.returned (some (Value.int z))) (by first | rfl | (simp [-Int32.not_lt, -Int32.not_le, okL, okV, okO, okR, okD, isP, shP, tL, tV, tO, tD, tLV, c_1]; done) | (simp_all [-Int32.not_lt, -Int32.not_le, okL, okV, okO, okR, okD, isP, shP, tL, tV, tO, tD, tLV]; done)), by rw [ht]; exact (hM.cg (by first | rfl | (simp [-Int32.not_lt, -Int32.not_le, okL, okV, okO, okR, okD, isP, shP, tL, tV, tO, tD, tLV, c_1, up_id]; done) | (simp_all [-Int32.not_lt, -Int32.not_le, okL, okV, okO, okR, okD, isP, shP, tL, tV, tO, tD, tLV, up_id]; done))).1, by rw [ht]; exact hM.2.1, fun q hq => by rw [ht]; exact hM.2.2.1 q hq⟩) hM.2.2.2 dX7_lateBy_17
set_option maxHeartbeats 4000000 in
set_option maxRecDepth 100000 in
theorem k_due (la : Launch) (g : EG) (lo : Nat) (ma : Nat → Nat) (hA : MA lo ma) (σ : Sg) (u : Nat → Int64) (o : Int32) (hI : INV σ) : Met la yX7_due wsX7_due ({ frames := 2, cells := 0, slots := 0, locals := 46 } : Room) (va_Pc [.ref (ma 0), .int o] (fun U => MR g ma σ u U.heap ∧ KK g U)) (QM (.returned (some (.int (if okO σ o then f_worth σ o else 0)))) (fun H1 => MR g ma (up σ 0 0 (tO σ o)) u H1) (mown ma)) 0 0 (fun q => lo ≤ q) := by
  refine Met.ofW (cc := cX7_due) (maxL := 2) (ret := (some .int)) (by decide) rfl ?_
  intro p e s m args below meth c s₁ B hml hv
  obtain ⟨rfl, hR0, hK⟩ := hv
  have hx := B.exec
  have hb := B.bytes
  have hr := B.returns
  have hts := atoms_spec (ws := wsX7_due) B.pre
  have hown : s.vm.findClass RX7 = some m.cls := findClass_of_methodNamed B.named
  have hlocks := B.notSynchronized
  have hM : MS g lo ma σ u s.heap s.heap [] := MS.start hR0
  have hl := lv_entry ([.ref (ma 0), .int o]) (n := 2) (Nat.le_of_ble_eq_true rfl)
  rw [lg_entry_eq]
  generalize (lg_sl ([.ref (ma 0), .int o]) ++ List.replicate (2 - (lg_sl ([.ref (ma 0), .int o])).length) Slot.unset).toArray = ls at hl ⊢
  have hl : lv_has ls 2 [(0, .ref (ma 0)), (1, .int o)] := hl
  refine lv_aload_n hx hb dX7_due_0 rfl (lv_at hl 0 rfl) ?_
  refine lv_iload_n hx hb dX7_due_1 rfl (lv_at hl 1 rfl) ?_
  refine mc_mu (n := 1) (As := [.int o]) (rest := []) (v := [.int (if ¬ okO σ o then 1 else 0)]) ⟨hx, hb, hml, hown, hts⟩ hK hM (k_noOrder la g lo ma hA σ u o ) gX7_due_X7_noOrder rfl rfl rfl (by decide +kernel) ⟨Nat.le_of_ble_eq_true rfl, Nat.le_of_ble_eq_true rfl⟩ rfl hl.1 rfl (Nat.le_of_ble_eq_true rfl) dX7_due_2 ⟨Nat.zero_le _, Nat.zero_le _⟩ rfl (fun H locs hM => ?_)
  refine br_if_eq (c9 := ¬ okO σ o) (tgt := 12) hx hb dX7_due_5 (by decide) (fun c_1 => ?_) (fun c_1 => ?_)
  · replace c_1 := Decidable.not_not.mp c_1
    replace hM := hM.cg (congrArg (fun z => up σ 0 0 z) (if_pos c_1))
    have ko := (okO_in hI o).mp c_1
    refine lv_aload_n hx hb dX7_due_12 rfl (lv_at hl 0 rfl) ?_
    refine lv_iload_n hx hb dX7_due_13 rfl (lv_at hl 1 rfl) ?_
    refine mc_ro (n := 1) (As := [.int o]) (rest := []) (v := [.int (f_worth σ o)]) ⟨hx, hb, hml, hown, hts⟩ hK hM (k_worth la g ma (up σ 0 0 0) u o (hI.up0 _) ko) gX7_due_X7_worth rfl rfl rfl (by decide +kernel) ⟨Nat.le_of_ble_eq_true rfl, Nat.le_of_ble_eq_true rfl⟩ rfl hl.1 rfl (Nat.le_of_ble_eq_true rfl) dX7_due_14 ⟨Nat.zero_le _, Nat.zero_le _⟩ (congrArg (fun z => [Value.int z]) (worth_up _ _ _)) ?_
    exact W.iret (v := (f_worth σ o)) hx hb hr (fun t ht hW => ⟨congrArg (fun z => Outcome.returned (some (Value.int z))) (by first | rfl | (simp [-Int32.not_lt, -Int32.not_le, okL, okV, okO, okR, okD, isP, shP, tL, tV, tO, tD, tLV, c_1]; done) | (simp_all [-Int32.not_lt, -Int32.not_le, okL, okV, okO, okR, okD, isP, shP, tL, tV, tO, tD, tLV]; done)), by rw [ht]; exact (hM.cg (by first | rfl | (simp [-Int32.not_lt, -Int32.not_le, okL, okV, okO, okR, okD, isP, shP, tL, tV, tO, tD, tLV, c_1, up_id]; done) | (simp_all [-Int32.not_lt, -Int32.not_le, okL, okV, okO, okR, okD, isP, shP, tL, tV, tO, tD, tLV, up_id]; done))).1, by rw [ht]; exact hM.2.1, fun q hq => by rw [ht]; exact hM.2.2.1 q hq⟩) hM.2.2.2 dX7_due_17
  · replace hM := hM.cg (congrArg (fun z => up σ 0 0 z) (if_neg c_1))
    refine lv_iconst (v := 0) hx hb dX7_due_8 (by decide) ?_
    refine lv_goto (tgt := 17) hx hb dX7_due_9 (by decide) ?_
    exact W.iret (v := 0) hx hb hr (fun t ht hW => ⟨congrArg (fun z => Outcome.returned (some (Value.int z))) (by first | rfl | (simp [-Int32.not_lt, -Int32.not_le, okL, okV, okO, okR, okD, isP, shP, tL, tV, tO, tD, tLV, c_1]; done) | (simp_all [-Int32.not_lt, -Int32.not_le, okL, okV, okO, okR, okD, isP, shP, tL, tV, tO, tD, tLV]; done)), by rw [ht]; exact (hM.cg (by first | rfl | (simp [-Int32.not_lt, -Int32.not_le, okL, okV, okO, okR, okD, isP, shP, tL, tV, tO, tD, tLV, c_1, up_id]; done) | (simp_all [-Int32.not_lt, -Int32.not_le, okL, okV, okO, okR, okD, isP, shP, tL, tV, tO, tD, tLV, up_id]; done))).1, by rw [ht]; exact hM.2.1, fun q hq => by rw [ht]; exact hM.2.2.1 q hq⟩) hM.2.2.2 dX7_due_17
set_option maxHeartbeats 4000000 in
set_option maxRecDepth 100000 in
theorem k_used (la : Launch) (g : EG) (lo : Nat) (ma : Nat → Nat) (hA : MA lo ma) (σ : Sg) (u : Nat → Int64) (d : Int32) (hI : INV σ) : Met la yX7_used wsX7_used ({ frames := 2, cells := 0, slots := 0, locals := 43 } : Room) (va_Pc [.ref (ma 0), .int d] (fun U => MR g ma σ u U.heap ∧ KK g U)) (QM (.returned (some (.long (if okD d then u (ti d) else 0)))) (fun H1 => MR g ma (up σ 0 0 (tD d)) u H1) (mown ma)) 0 0 (fun q => lo ≤ q) := by
  refine Met.ofW (cc := cX7_used) (maxL := 2) (ret := (some .long)) (by decide) rfl ?_
  intro p e s m args below meth c s₁ B hml hv
  obtain ⟨rfl, hR0, hK⟩ := hv
  have hx := B.exec
  have hb := B.bytes
  have hr := B.returns
  have hts := atoms_spec (ws := wsX7_used) B.pre
  have hown : s.vm.findClass RX7 = some m.cls := findClass_of_methodNamed B.named
  have hlocks := B.notSynchronized
  have hM : MS g lo ma σ u s.heap s.heap [] := MS.start hR0
  have hinX7 : ∀ w ∈ wsX70, w ∈ wsX7_used := by decide +kernel
  have lk19 := hts (.fieldLink RX7 19 "DyehouseLedgerModel" "used" "[J") (by decide +kernel)
  have hl := lv_entry ([.ref (ma 0), .int d]) (n := 2) (Nat.le_of_ble_eq_true rfl)
  rw [lg_entry_eq]
  generalize (lg_sl ([.ref (ma 0), .int d]) ++ List.replicate (2 - (lg_sl ([.ref (ma 0), .int d])).length) Slot.unset).toArray = ls at hl ⊢
  have hl : lv_has ls 2 [(0, .ref (ma 0)), (1, .int d)] := hl
  refine lv_aload_n hx hb dX7_used_0 rfl (lv_at hl 0 rfl) ?_
  refine lv_iload_n hx hb dX7_used_1 rfl (lv_at hl 1 rfl) ?_
  refine mc_mu (n := 1) (As := [.int d]) (rest := []) (v := [.int (if ¬ okD d then 1 else 0)]) ⟨hx, hb, hml, hown, hts⟩ hK hM (k_noDye la g lo ma hA σ u d ) gX7_used_X7_noDye rfl rfl rfl (by decide +kernel) ⟨Nat.le_of_ble_eq_true rfl, Nat.le_of_ble_eq_true rfl⟩ rfl hl.1 rfl (Nat.le_of_ble_eq_true rfl) dX7_used_2 ⟨Nat.zero_le _, Nat.zero_le _⟩ rfl (fun H locs hM => ?_)
  refine br_if_eq (c9 := ¬ okD d) (tgt := 12) hx hb dX7_used_5 (by decide) (fun c_1 => ?_) (fun c_1 => ?_)
  · replace c_1 := Decidable.not_not.mp c_1
    replace hM := hM.cg (congrArg (fun z => up σ 0 0 z) (if_pos c_1))
    have kd := (okD_in d).mp c_1
    refine lv_aload_n hx hb dX7_used_12 rfl (lv_at hl 0 rfl) ?_
    refine m_get (v := .ref (ma 8)) hx hb hts hinX7 hown hK hM 8 (by decide) lk19 rfl dX7_used_13 ?_
    refine lv_iload_n hx hb dX7_used_16 rfl (lv_at hl 1 rfl) ?_
    refine m_lald (x := (u (ti d))) hx hb hK hM (i := d) kd rfl dX7_used_17 ?_
    exact W.lret (v := (u (ti d))) hx hb hr (fun t ht hW => ⟨congrArg (fun z => Outcome.returned (some (Value.long z))) (by first | rfl | (simp [-Int32.not_lt, -Int32.not_le, okL, okV, okO, okR, okD, isP, shP, tL, tV, tO, tD, tLV, c_1]; done) | (simp_all [-Int32.not_lt, -Int32.not_le, okL, okV, okO, okR, okD, isP, shP, tL, tV, tO, tD, tLV]; done)), by rw [ht]; exact (hM.cg (by first | rfl | (simp [-Int32.not_lt, -Int32.not_le, okL, okV, okO, okR, okD, isP, shP, tL, tV, tO, tD, tLV, c_1, up_id]; done) | (simp_all [-Int32.not_lt, -Int32.not_le, okL, okV, okO, okR, okD, isP, shP, tL, tV, tO, tD, tLV, up_id]; done))).1, by rw [ht]; exact hM.2.1, fun q hq => by rw [ht]; exact hM.2.2.1 q hq⟩) hM.2.2.2 dX7_used_18
  · replace hM := hM.cg (congrArg (fun z => up σ 0 0 z) (if_neg c_1))
    refine lv_lconst (v := 0) hx hb dX7_used_8 (by decide) ?_
    refine lv_goto (tgt := 18) hx hb dX7_used_9 (by decide) ?_
    exact W.lret (v := 0) hx hb hr (fun t ht hW => ⟨congrArg (fun z => Outcome.returned (some (Value.long z))) (by first | rfl | (simp [-Int32.not_lt, -Int32.not_le, okL, okV, okO, okR, okD, isP, shP, tL, tV, tO, tD, tLV, c_1]; done) | (simp_all [-Int32.not_lt, -Int32.not_le, okL, okV, okO, okR, okD, isP, shP, tL, tV, tO, tD, tLV]; done)), by rw [ht]; exact (hM.cg (by first | rfl | (simp [-Int32.not_lt, -Int32.not_le, okL, okV, okO, okR, okD, isP, shP, tL, tV, tO, tD, tLV, c_1, up_id]; done) | (simp_all [-Int32.not_lt, -Int32.not_le, okL, okV, okO, okR, okD, isP, shP, tL, tV, tO, tD, tLV, up_id]; done))).1, by rw [ht]; exact hM.2.1, fun q hq => by rw [ht]; exact hM.2.2.1 q hq⟩) hM.2.2.2 dX7_used_18
set_option maxHeartbeats 4000000 in
set_option maxRecDepth 100000 in
theorem k_lotsOf (la : Launch) (g : EG) (lo : Nat) (ma : Nat → Nat) (hA : MA lo ma) (σ : Sg) (u : Nat → Int64) (o : Int32) (hI : INV σ) : Met la yX7_lotsOf wsX7_lotsOf ({ frames := 2, cells := 0, slots := 0, locals := 43 } : Room) (va_Pc [.ref (ma 0), .int o] (fun U => MR g ma σ u U.heap ∧ KK g U)) (QM (.returned (some (.int (if okO σ o then c_lots σ o (nL σ) else 0)))) (fun H1 => MR g ma (up σ 0 0 (tO σ o)) u H1) (mown ma)) 0 0 (fun q => lo ≤ q) := by
  refine Met.ofW (cc := cX7_lotsOf) (maxL := 4) (ret := (some .int)) (by decide) rfl ?_
  intro p e s m args below meth c s₁ B hml hv
  obtain ⟨rfl, hR0, hK⟩ := hv
  have hx := B.exec
  have hb := B.bytes
  have hr := B.returns
  have hts := atoms_spec (ws := wsX7_lotsOf) B.pre
  have hown : s.vm.findClass RX7 = some m.cls := findClass_of_methodNamed B.named
  have hlocks := B.notSynchronized
  have hM : MS g lo ma σ u s.heap s.heap [] := MS.start hR0
  have hinX7 : ∀ w ∈ wsX70, w ∈ wsX7_lotsOf := by decide +kernel
  have lk38 := hts (.fieldLink RX7 38 "DyehouseLedgerModel" "order" "[I") (by decide +kernel)
  have lk92 := hts (.fieldLink RX7 92 "DyehouseLedgerModel" "lots" "I") (by decide +kernel)
  have hl := lv_entry ([.ref (ma 0), .int o]) (n := 4) (Nat.le_of_ble_eq_true rfl)
  rw [lg_entry_eq]
  generalize (lg_sl ([.ref (ma 0), .int o]) ++ List.replicate (4 - (lg_sl ([.ref (ma 0), .int o])).length) Slot.unset).toArray = ls at hl ⊢
  have hl : lv_has ls 4 [(0, .ref (ma 0)), (1, .int o)] := hl
  refine lv_aload_n hx hb dX7_lotsOf_0 rfl (lv_at hl 0 rfl) ?_
  refine lv_iload_n hx hb dX7_lotsOf_1 rfl (lv_at hl 1 rfl) ?_
  refine mc_mu (n := 1) (As := [.int o]) (rest := []) (v := [.int (if ¬ okO σ o then 1 else 0)]) ⟨hx, hb, hml, hown, hts⟩ hK hM (k_noOrder la g lo ma hA σ u o ) gX7_lotsOf_X7_noOrder rfl rfl rfl (by decide +kernel) ⟨Nat.le_of_ble_eq_true rfl, Nat.le_of_ble_eq_true rfl⟩ rfl hl.1 rfl (Nat.le_of_ble_eq_true rfl) dX7_lotsOf_2 ⟨Nat.zero_le _, Nat.zero_le _⟩ rfl (fun H locs hM => ?_)
  refine br_if_eq (c9 := ¬ okO σ o) (tgt := 10) hx hb dX7_lotsOf_5 (by decide) (fun c_1 => ?_) (fun c_1 => ?_)
  · replace c_1 := Decidable.not_not.mp c_1
    replace hM := hM.cg (congrArg (fun z => up σ 0 0 z) (if_pos c_1))
    have ko := (okO_in hI o).mp c_1
    refine lv_iconst (v := 0) hx hb dX7_lotsOf_10 (by decide) ?_
    refine lv_istore_n (lv' := [(2, .int 0), (0, .ref (ma 0)), (1, .int o)]) hx hb dX7_lotsOf_11 rfl hl (by decide) rfl (fun ls hl => ?_)
    refine lv_iconst (v := 0) hx hb dX7_lotsOf_12 (by decide) ?_
    refine lv_istore_n (lv' := [(3, .int 0), (2, .int 0), (0, .ref (ma 0)), (1, .int o)]) hx hb dX7_lotsOf_13 rfl hl (by decide) rfl (fun ls hl => ?_)
    have lp14 : ∀ (n9 : Nat) (i : Nat), (i ≤ nL σ) → nL σ - i < n9 → ∀ (H : Heap) (locs : List Loc), MS g lo ma (up σ 0 0 0) u s.heap H locs → ∀ (ls : Array Slot), lv_has ls 4 [(0, .ref (ma 0)), (1, .int o), (2, .int (c_lots σ o i)), (3, .int (nI i))] → W p la e ({ frames := 2, cells := 0, slots := 0, locals := 43 } : Room) s m ([.ref (ma 0), .int o] : List Value).toArray below meth c H locs 0 0 (MQ below (QM (.returned (some (.int (if okO σ o then c_lots σ o (nL σ) else 0)))) (fun H1 => MR g ma (up σ 0 0 (tO σ o)) u H1) (mown ma)) ([.ref (ma 0), .int o] : List Value).toArray s 0 0 (fun q => lo ≤ q)) (F0 m 14 ls []) := by
      intro n9_14
      induction n9_14 with
      | zero => intro i _ h9 ; exact absurd h9 (Nat.not_lt_zero _)
      | succ n9_14 ih_14 =>
        intro i hi h9 H locs hM ls hl
        refine lv_iload_n hx hb dX7_lotsOf_14 rfl (lv_at hl 3 rfl) ?_
        refine lv_aload_n hx hb dX7_lotsOf_15 rfl (lv_at hl 0 rfl) ?_
        refine m_get (v := .int (σ 3 0)) hx hb hts hinX7 hown hK hM 3 (by decide) lk92 rfl dX7_lotsOf_16 ?_
        refine lv_icmp_ge (tgt := 46) hx hb dX7_lotsOf_19 (by decide) (fun c_2 => ?_) (fun c_2 => ?_)
        · replace c_2 := Int32.not_lt.mpr c_2
          obtain rfl : i = nL σ := fnd_eq hI hi c_2
          refine lv_iload_n hx hb dX7_lotsOf_46 rfl (lv_at hl 2 rfl) ?_
          exact W.iret (v := (c_lots σ o (nL σ))) hx hb hr (fun t ht hW => ⟨congrArg (fun z => Outcome.returned (some (Value.int z))) (by first | rfl | (simp [-Int32.not_lt, -Int32.not_le, okL, okV, okO, okR, okD, isP, shP, c_lots, sumF, tL, tV, tO, tD, tLV, c_1, hi, c_2]; done) | (simp_all [-Int32.not_lt, -Int32.not_le, okL, okV, okO, okR, okD, isP, shP, c_lots, sumF, tL, tV, tO, tD, tLV]; done)), by rw [ht]; exact (hM.cg (by first | rfl | (simp [-Int32.not_lt, -Int32.not_le, okL, okV, okO, okR, okD, isP, shP, c_lots, sumF, tL, tV, tO, tD, tLV, c_1, hi, c_2, up_id]; done) | (simp_all [-Int32.not_lt, -Int32.not_le, okL, okV, okO, okR, okD, isP, shP, c_lots, sumF, tL, tV, tO, tD, tLV, up_id]; done))).1, by rw [ht]; exact hM.2.1, fun q hq => by rw [ht]; exact hM.2.2.1 q hq⟩) hM.2.2.2 dX7_lotsOf_47
        · replace c_2 := Int32.not_le.mp c_2
          have hi1 : i < nL σ := fnd_lt hI hi c_2
          have hLb := hI.l.1
          refine lv_iload_n hx hb dX7_lotsOf_22 rfl (lv_at hl 2 rfl) ?_
          refine lv_aload_n hx hb dX7_lotsOf_23 rfl (lv_at hl 0 rfl) ?_
          refine m_get (v := .ref (ma 14)) hx hb hts hinX7 hown hK hM 14 (by decide) lk38 rfl dX7_lotsOf_24 ?_
          refine lv_iload_n hx hb dX7_lotsOf_27 rfl (lv_at hl 3 rfl) ?_
          refine m_iald (x := (σ 14 i)) hx hb hK hM 14 (by decide) rfl (i := (nI i)) (n := 24) (vin_mono (vin_nI hi1 (by omega)) hLb) (congrArg ((up σ 0 0 0) 14) (ti_nI (by omega))) dX7_lotsOf_28 ?_
          refine lv_iload_n hx hb dX7_lotsOf_29 rfl (lv_at hl 1 rfl) ?_
          refine lv_icmp_ne (tgt := 37) hx hb dX7_lotsOf_30 (by decide) (fun c_3 => ?_) (fun c_3 => ?_)
          · refine lv_iconst (v := 0) hx hb dX7_lotsOf_37 (by decide) ?_
            refine lv_iadd hx hb dX7_lotsOf_38 ?_
            refine lv_istore_n (lv' := [(2, .int ((c_lots σ o i) + 0)), (0, .ref (ma 0)), (1, .int o), (3, .int (nI i))]) hx hb dX7_lotsOf_39 rfl hl (by decide) rfl (fun ls hl => ?_)
            refine lv_iinc (v := ((nI i) + 1)) (lv' := [(3, .int ((nI i) + 1)), (2, .int ((c_lots σ o i) + 0)), (0, .ref (ma 0)), (1, .int o)]) hx hb dX7_lotsOf_40 hl (k := 3) rfl rfl (by decide) rfl (fun ls hl => ?_)
            refine lv_goto (tgt := 14) hx hb dX7_lotsOf_43 (by decide) ?_
            have e_4 : ((c_lots σ o (i + 1)) : Int32) = ((c_lots σ o i) + 0) := (by first | rfl | (simp [-Int32.not_lt, -Int32.not_le, okL, okV, okO, okR, okD, isP, shP, c_lots, sumF, tL, tV, tO, tD, tLV, c_1, hi, c_2, c_3]; done) | (simp_all [-Int32.not_lt, -Int32.not_le, okL, okV, okO, okR, okD, isP, shP, c_lots, sumF, tL, tV, tO, tD, tLV]; done))
            have e_5 : ((nI (i + 1)) : Int32) = ((nI i) + 1) := (nI_1 i).symm
            have hl2 : lv_has ls 4 [(0, .ref (ma 0)), (1, .int o), (2, .int (c_lots σ o (i + 1))), (3, .int (nI (i + 1)))] := by
              rw [e_4, e_5]
              exact lv_sub hl [2, 3, 1, 0] rfl
            exact ih_14 (i + 1) (by omega) (by omega) _ _ hM ls hl2
          · refine lv_iconst (v := 1) hx hb dX7_lotsOf_33 (by decide) ?_
            refine lv_goto (tgt := 38) hx hb dX7_lotsOf_34 (by decide) ?_
            refine lv_iadd hx hb dX7_lotsOf_38 ?_
            refine lv_istore_n (lv' := [(2, .int ((c_lots σ o i) + 1)), (0, .ref (ma 0)), (1, .int o), (3, .int (nI i))]) hx hb dX7_lotsOf_39 rfl hl (by decide) rfl (fun ls hl => ?_)
            refine lv_iinc (v := ((nI i) + 1)) (lv' := [(3, .int ((nI i) + 1)), (2, .int ((c_lots σ o i) + 1)), (0, .ref (ma 0)), (1, .int o)]) hx hb dX7_lotsOf_40 hl (k := 3) rfl rfl (by decide) rfl (fun ls hl => ?_)
            refine lv_goto (tgt := 14) hx hb dX7_lotsOf_43 (by decide) ?_
            have e_6 : ((c_lots σ o (i + 1)) : Int32) = ((c_lots σ o i) + 1) := (by first | rfl | (simp [-Int32.not_lt, -Int32.not_le, okL, okV, okO, okR, okD, isP, shP, c_lots, sumF, tL, tV, tO, tD, tLV, c_1, hi, c_2, c_3]; done) | (simp_all [-Int32.not_lt, -Int32.not_le, okL, okV, okO, okR, okD, isP, shP, c_lots, sumF, tL, tV, tO, tD, tLV]; done))
            have e_7 : ((nI (i + 1)) : Int32) = ((nI i) + 1) := (nI_1 i).symm
            have hl2 : lv_has ls 4 [(0, .ref (ma 0)), (1, .int o), (2, .int (c_lots σ o (i + 1))), (3, .int (nI (i + 1)))] := by
              rw [e_6, e_7]
              exact lv_sub hl [2, 3, 1, 0] rfl
            exact ih_14 (i + 1) (by omega) (by omega) _ _ hM ls hl2
    have e_8 : ((c_lots σ o (0)) : Int32) = 0 := (by first | rfl | (simp [-Int32.not_lt, -Int32.not_le, okL, okV, okO, okR, okD, isP, shP, c_lots, sumF, tL, tV, tO, tD, tLV, c_1]; done) | (simp_all [-Int32.not_lt, -Int32.not_le, okL, okV, okO, okR, okD, isP, shP, c_lots, sumF, tL, tV, tO, tD, tLV]; done))
    have e_9 : ((nI (0)) : Int32) = 0 := (by first | rfl | (simp [-Int32.not_lt, -Int32.not_le, okL, okV, okO, okR, okD, isP, shP, c_lots, sumF, tL, tV, tO, tD, tLV, c_1]; done) | (simp_all [-Int32.not_lt, -Int32.not_le, okL, okV, okO, okR, okD, isP, shP, c_lots, sumF, tL, tV, tO, tD, tLV]; done))
    have hl2 : lv_has ls 4 [(0, .ref (ma 0)), (1, .int o), (2, .int (c_lots σ o (0))), (3, .int (nI (0)))] := by
      rw [e_8, e_9]
      exact lv_sub hl [2, 3, 1, 0] rfl
    exact lp14 (nL σ - 0 + 1) (0) (Nat.zero_le _) (Nat.lt_succ_self _) _ _ hM ls hl2
  · replace hM := hM.cg (congrArg (fun z => up σ 0 0 z) (if_neg c_1))
    refine lv_iconst (v := 0) hx hb dX7_lotsOf_8 (by decide) ?_
    exact W.iret (v := 0) hx hb hr (fun t ht hW => ⟨congrArg (fun z => Outcome.returned (some (Value.int z))) (by first | rfl | (simp [-Int32.not_lt, -Int32.not_le, okL, okV, okO, okR, okD, isP, shP, c_lots, sumF, tL, tV, tO, tD, tLV, c_1]; done) | (simp_all [-Int32.not_lt, -Int32.not_le, okL, okV, okO, okR, okD, isP, shP, c_lots, sumF, tL, tV, tO, tD, tLV]; done)), by rw [ht]; exact (hM.cg (by first | rfl | (simp [-Int32.not_lt, -Int32.not_le, okL, okV, okO, okR, okD, isP, shP, c_lots, sumF, tL, tV, tO, tD, tLV, c_1, up_id]; done) | (simp_all [-Int32.not_lt, -Int32.not_le, okL, okV, okO, okR, okD, isP, shP, c_lots, sumF, tL, tV, tO, tD, tLV, up_id]; done))).1, by rw [ht]; exact hM.2.1, fun q hq => by rw [ht]; exact hM.2.2.1 q hq⟩) hM.2.2.2 dX7_lotsOf_9
set_option maxHeartbeats 4000000 in
set_option maxRecDepth 100000 in
theorem k_passedOf (la : Launch) (g : EG) (lo : Nat) (ma : Nat → Nat) (hA : MA lo ma) (σ : Sg) (u : Nat → Int64) (o : Int32) (hI : INV σ) : Met la yX7_passedOf wsX7_passedOf ({ frames := 2, cells := 0, slots := 0, locals := 43 } : Room) (va_Pc [.ref (ma 0), .int o] (fun U => MR g ma σ u U.heap ∧ KK g U)) (QM (.returned (some (.int (if okO σ o then c_pass σ o (nL σ) else 0)))) (fun H1 => MR g ma (up σ 0 0 (tO σ o)) u H1) (mown ma)) 0 0 (fun q => lo ≤ q) := by
  refine Met.ofW (cc := cX7_passedOf) (maxL := 4) (ret := (some .int)) (by decide) rfl ?_
  intro p e s m args below meth c s₁ B hml hv
  obtain ⟨rfl, hR0, hK⟩ := hv
  have hx := B.exec
  have hb := B.bytes
  have hr := B.returns
  have hts := atoms_spec (ws := wsX7_passedOf) B.pre
  have hown : s.vm.findClass RX7 = some m.cls := findClass_of_methodNamed B.named
  have hlocks := B.notSynchronized
  have hM : MS g lo ma σ u s.heap s.heap [] := MS.start hR0
  have hinX7 : ∀ w ∈ wsX70, w ∈ wsX7_passedOf := by decide +kernel
  have lk38 := hts (.fieldLink RX7 38 "DyehouseLedgerModel" "order" "[I") (by decide +kernel)
  have lk59 := hts (.fieldLink RX7 59 "DyehouseLedgerModel" "state" "[C") (by decide +kernel)
  have lk92 := hts (.fieldLink RX7 92 "DyehouseLedgerModel" "lots" "I") (by decide +kernel)
  have hl := lv_entry ([.ref (ma 0), .int o]) (n := 4) (Nat.le_of_ble_eq_true rfl)
  rw [lg_entry_eq]
  generalize (lg_sl ([.ref (ma 0), .int o]) ++ List.replicate (4 - (lg_sl ([.ref (ma 0), .int o])).length) Slot.unset).toArray = ls at hl ⊢
  have hl : lv_has ls 4 [(0, .ref (ma 0)), (1, .int o)] := hl
  refine lv_aload_n hx hb dX7_passedOf_0 rfl (lv_at hl 0 rfl) ?_
  refine lv_iload_n hx hb dX7_passedOf_1 rfl (lv_at hl 1 rfl) ?_
  refine mc_mu (n := 1) (As := [.int o]) (rest := []) (v := [.int (if ¬ okO σ o then 1 else 0)]) ⟨hx, hb, hml, hown, hts⟩ hK hM (k_noOrder la g lo ma hA σ u o ) gX7_passedOf_X7_noOrder rfl rfl rfl (by decide +kernel) ⟨Nat.le_of_ble_eq_true rfl, Nat.le_of_ble_eq_true rfl⟩ rfl hl.1 rfl (Nat.le_of_ble_eq_true rfl) dX7_passedOf_2 ⟨Nat.zero_le _, Nat.zero_le _⟩ rfl (fun H locs hM => ?_)
  refine br_if_eq (c9 := ¬ okO σ o) (tgt := 10) hx hb dX7_passedOf_5 (by decide) (fun c_1 => ?_) (fun c_1 => ?_)
  · replace c_1 := Decidable.not_not.mp c_1
    replace hM := hM.cg (congrArg (fun z => up σ 0 0 z) (if_pos c_1))
    have ko := (okO_in hI o).mp c_1
    refine lv_iconst (v := 0) hx hb dX7_passedOf_10 (by decide) ?_
    refine lv_istore_n (lv' := [(2, .int 0), (0, .ref (ma 0)), (1, .int o)]) hx hb dX7_passedOf_11 rfl hl (by decide) rfl (fun ls hl => ?_)
    refine lv_iconst (v := 0) hx hb dX7_passedOf_12 (by decide) ?_
    refine lv_istore_n (lv' := [(3, .int 0), (2, .int 0), (0, .ref (ma 0)), (1, .int o)]) hx hb dX7_passedOf_13 rfl hl (by decide) rfl (fun ls hl => ?_)
    have lp14 : ∀ (n9 : Nat) (i : Nat), (i ≤ nL σ) → nL σ - i < n9 → ∀ (H : Heap) (locs : List Loc), MS g lo ma (up σ 0 0 0) u s.heap H locs → ∀ (ls : Array Slot), lv_has ls 4 [(0, .ref (ma 0)), (1, .int o), (2, .int (c_pass σ o i)), (3, .int (nI i))] → W p la e ({ frames := 2, cells := 0, slots := 0, locals := 43 } : Room) s m ([.ref (ma 0), .int o] : List Value).toArray below meth c H locs 0 0 (MQ below (QM (.returned (some (.int (if okO σ o then c_pass σ o (nL σ) else 0)))) (fun H1 => MR g ma (up σ 0 0 (tO σ o)) u H1) (mown ma)) ([.ref (ma 0), .int o] : List Value).toArray s 0 0 (fun q => lo ≤ q)) (F0 m 14 ls []) := by
      intro n9_14
      induction n9_14 with
      | zero => intro i _ h9 ; exact absurd h9 (Nat.not_lt_zero _)
      | succ n9_14 ih_14 =>
        intro i hi h9 H locs hM ls hl
        refine lv_iload_n hx hb dX7_passedOf_14 rfl (lv_at hl 3 rfl) ?_
        refine lv_aload_n hx hb dX7_passedOf_15 rfl (lv_at hl 0 rfl) ?_
        refine m_get (v := .int (σ 3 0)) hx hb hts hinX7 hown hK hM 3 (by decide) lk92 rfl dX7_passedOf_16 ?_
        refine lv_icmp_ge (tgt := 57) hx hb dX7_passedOf_19 (by decide) (fun c_2 => ?_) (fun c_2 => ?_)
        · replace c_2 := Int32.not_lt.mpr c_2
          obtain rfl : i = nL σ := fnd_eq hI hi c_2
          refine lv_iload_n hx hb dX7_passedOf_57 rfl (lv_at hl 2 rfl) ?_
          exact W.iret (v := (c_pass σ o (nL σ))) hx hb hr (fun t ht hW => ⟨congrArg (fun z => Outcome.returned (some (Value.int z))) (by first | rfl | (simp [-Int32.not_lt, -Int32.not_le, okL, okV, okO, okR, okD, isP, shP, c_pass, sumF, tL, tV, tO, tD, tLV, c_1, hi, c_2]; done) | (simp_all [-Int32.not_lt, -Int32.not_le, okL, okV, okO, okR, okD, isP, shP, c_pass, sumF, tL, tV, tO, tD, tLV]; done)), by rw [ht]; exact (hM.cg (by first | rfl | (simp [-Int32.not_lt, -Int32.not_le, okL, okV, okO, okR, okD, isP, shP, c_pass, sumF, tL, tV, tO, tD, tLV, c_1, hi, c_2, up_id]; done) | (simp_all [-Int32.not_lt, -Int32.not_le, okL, okV, okO, okR, okD, isP, shP, c_pass, sumF, tL, tV, tO, tD, tLV, up_id]; done))).1, by rw [ht]; exact hM.2.1, fun q hq => by rw [ht]; exact hM.2.2.1 q hq⟩) hM.2.2.2 dX7_passedOf_58
        · replace c_2 := Int32.not_le.mp c_2
          have hi1 : i < nL σ := fnd_lt hI hi c_2
          have hLb := hI.l.1
          refine lv_iload_n hx hb dX7_passedOf_22 rfl (lv_at hl 2 rfl) ?_
          refine lv_aload_n hx hb dX7_passedOf_23 rfl (lv_at hl 0 rfl) ?_
          refine m_get (v := .ref (ma 14)) hx hb hts hinX7 hown hK hM 14 (by decide) lk38 rfl dX7_passedOf_24 ?_
          refine lv_iload_n hx hb dX7_passedOf_27 rfl (lv_at hl 3 rfl) ?_
          refine m_iald (x := (σ 14 i)) hx hb hK hM 14 (by decide) rfl (i := (nI i)) (n := 24) (vin_mono (vin_nI hi1 (by omega)) hLb) (congrArg ((up σ 0 0 0) 14) (ti_nI (by omega))) dX7_passedOf_28 ?_
          refine lv_iload_n hx hb dX7_passedOf_29 rfl (lv_at hl 1 rfl) ?_
          refine lv_icmp_ne (tgt := 48) hx hb dX7_passedOf_30 (by decide) (fun c_3 => ?_) (fun c_3 => ?_)
          · refine lv_iconst (v := 0) hx hb dX7_passedOf_48 (by decide) ?_
            refine lv_iadd hx hb dX7_passedOf_49 ?_
            refine lv_istore_n (lv' := [(2, .int ((c_pass σ o i) + 0)), (0, .ref (ma 0)), (1, .int o), (3, .int (nI i))]) hx hb dX7_passedOf_50 rfl hl (by decide) rfl (fun ls hl => ?_)
            refine lv_iinc (v := ((nI i) + 1)) (lv' := [(3, .int ((nI i) + 1)), (2, .int ((c_pass σ o i) + 0)), (0, .ref (ma 0)), (1, .int o)]) hx hb dX7_passedOf_51 hl (k := 3) rfl rfl (by decide) rfl (fun ls hl => ?_)
            refine lv_goto (tgt := 14) hx hb dX7_passedOf_54 (by decide) ?_
            have e_4 : ((c_pass σ o (i + 1)) : Int32) = ((c_pass σ o i) + 0) := (by first | rfl | (simp [-Int32.not_lt, -Int32.not_le, okL, okV, okO, okR, okD, isP, shP, c_pass, sumF, tL, tV, tO, tD, tLV, c_1, hi, c_2, c_3]; done) | (simp_all [-Int32.not_lt, -Int32.not_le, okL, okV, okO, okR, okD, isP, shP, c_pass, sumF, tL, tV, tO, tD, tLV]; done))
            have e_5 : ((nI (i + 1)) : Int32) = ((nI i) + 1) := (nI_1 i).symm
            have hl2 : lv_has ls 4 [(0, .ref (ma 0)), (1, .int o), (2, .int (c_pass σ o (i + 1))), (3, .int (nI (i + 1)))] := by
              rw [e_4, e_5]
              exact lv_sub hl [2, 3, 1, 0] rfl
            exact ih_14 (i + 1) (by omega) (by omega) _ _ hM ls hl2
          · refine lv_aload_n hx hb dX7_passedOf_33 rfl (lv_at hl 0 rfl) ?_
            refine m_get (v := .ref (ma 21)) hx hb hts hinX7 hown hK hM 21 (by decide) lk59 rfl dX7_passedOf_34 ?_
            refine lv_iload_n hx hb dX7_passedOf_37 rfl (lv_at hl 3 rfl) ?_
            refine m_cald (x := (σ 21 i)) hx hb hK hM (i := (nI i)) (vin_mono (vin_nI hi1 (by omega)) hLb) (congrArg ((up σ 0 0 0) 21) (ti_nI (by omega))) dX7_passedOf_38 ?_
            refine lv_bipush (v := 112) hx hb dX7_passedOf_39 (by decide) ?_
            refine lv_icmp_ne (tgt := 48) hx hb dX7_passedOf_41 (by decide) (fun c_6 => ?_) (fun c_6 => ?_)
            · refine lv_iconst (v := 0) hx hb dX7_passedOf_48 (by decide) ?_
              refine lv_iadd hx hb dX7_passedOf_49 ?_
              refine lv_istore_n (lv' := [(2, .int ((c_pass σ o i) + 0)), (0, .ref (ma 0)), (1, .int o), (3, .int (nI i))]) hx hb dX7_passedOf_50 rfl hl (by decide) rfl (fun ls hl => ?_)
              refine lv_iinc (v := ((nI i) + 1)) (lv' := [(3, .int ((nI i) + 1)), (2, .int ((c_pass σ o i) + 0)), (0, .ref (ma 0)), (1, .int o)]) hx hb dX7_passedOf_51 hl (k := 3) rfl rfl (by decide) rfl (fun ls hl => ?_)
              refine lv_goto (tgt := 14) hx hb dX7_passedOf_54 (by decide) ?_
              have e_7 : ((c_pass σ o (i + 1)) : Int32) = ((c_pass σ o i) + 0) := (by first | rfl | (simp [-Int32.not_lt, -Int32.not_le, okL, okV, okO, okR, okD, isP, shP, c_pass, sumF, tL, tV, tO, tD, tLV, c_1, hi, c_2, c_3, c_6]; done) | (simp_all [-Int32.not_lt, -Int32.not_le, okL, okV, okO, okR, okD, isP, shP, c_pass, sumF, tL, tV, tO, tD, tLV]; done))
              have e_8 : ((nI (i + 1)) : Int32) = ((nI i) + 1) := (nI_1 i).symm
              have hl2 : lv_has ls 4 [(0, .ref (ma 0)), (1, .int o), (2, .int (c_pass σ o (i + 1))), (3, .int (nI (i + 1)))] := by
                rw [e_7, e_8]
                exact lv_sub hl [2, 3, 1, 0] rfl
              exact ih_14 (i + 1) (by omega) (by omega) _ _ hM ls hl2
            · refine lv_iconst (v := 1) hx hb dX7_passedOf_44 (by decide) ?_
              refine lv_goto (tgt := 49) hx hb dX7_passedOf_45 (by decide) ?_
              refine lv_iadd hx hb dX7_passedOf_49 ?_
              refine lv_istore_n (lv' := [(2, .int ((c_pass σ o i) + 1)), (0, .ref (ma 0)), (1, .int o), (3, .int (nI i))]) hx hb dX7_passedOf_50 rfl hl (by decide) rfl (fun ls hl => ?_)
              refine lv_iinc (v := ((nI i) + 1)) (lv' := [(3, .int ((nI i) + 1)), (2, .int ((c_pass σ o i) + 1)), (0, .ref (ma 0)), (1, .int o)]) hx hb dX7_passedOf_51 hl (k := 3) rfl rfl (by decide) rfl (fun ls hl => ?_)
              refine lv_goto (tgt := 14) hx hb dX7_passedOf_54 (by decide) ?_
              have e_9 : ((c_pass σ o (i + 1)) : Int32) = ((c_pass σ o i) + 1) := (by first | rfl | (simp [-Int32.not_lt, -Int32.not_le, okL, okV, okO, okR, okD, isP, shP, c_pass, sumF, tL, tV, tO, tD, tLV, c_1, hi, c_2, c_3, c_6]; done) | (simp_all [-Int32.not_lt, -Int32.not_le, okL, okV, okO, okR, okD, isP, shP, c_pass, sumF, tL, tV, tO, tD, tLV]; done))
              have e_10 : ((nI (i + 1)) : Int32) = ((nI i) + 1) := (nI_1 i).symm
              have hl2 : lv_has ls 4 [(0, .ref (ma 0)), (1, .int o), (2, .int (c_pass σ o (i + 1))), (3, .int (nI (i + 1)))] := by
                rw [e_9, e_10]
                exact lv_sub hl [2, 3, 1, 0] rfl
              exact ih_14 (i + 1) (by omega) (by omega) _ _ hM ls hl2
    have e_11 : ((c_pass σ o (0)) : Int32) = 0 := (by first | rfl | (simp [-Int32.not_lt, -Int32.not_le, okL, okV, okO, okR, okD, isP, shP, c_pass, sumF, tL, tV, tO, tD, tLV, c_1]; done) | (simp_all [-Int32.not_lt, -Int32.not_le, okL, okV, okO, okR, okD, isP, shP, c_pass, sumF, tL, tV, tO, tD, tLV]; done))
    have e_12 : ((nI (0)) : Int32) = 0 := (by first | rfl | (simp [-Int32.not_lt, -Int32.not_le, okL, okV, okO, okR, okD, isP, shP, c_pass, sumF, tL, tV, tO, tD, tLV, c_1]; done) | (simp_all [-Int32.not_lt, -Int32.not_le, okL, okV, okO, okR, okD, isP, shP, c_pass, sumF, tL, tV, tO, tD, tLV]; done))
    have hl2 : lv_has ls 4 [(0, .ref (ma 0)), (1, .int o), (2, .int (c_pass σ o (0))), (3, .int (nI (0)))] := by
      rw [e_11, e_12]
      exact lv_sub hl [2, 3, 1, 0] rfl
    exact lp14 (nL σ - 0 + 1) (0) (Nat.zero_le _) (Nat.lt_succ_self _) _ _ hM ls hl2
  · replace hM := hM.cg (congrArg (fun z => up σ 0 0 z) (if_neg c_1))
    refine lv_iconst (v := 0) hx hb dX7_passedOf_8 (by decide) ?_
    exact W.iret (v := 0) hx hb hr (fun t ht hW => ⟨congrArg (fun z => Outcome.returned (some (Value.int z))) (by first | rfl | (simp [-Int32.not_lt, -Int32.not_le, okL, okV, okO, okR, okD, isP, shP, c_pass, sumF, tL, tV, tO, tD, tLV, c_1]; done) | (simp_all [-Int32.not_lt, -Int32.not_le, okL, okV, okO, okR, okD, isP, shP, c_pass, sumF, tL, tV, tO, tD, tLV]; done)), by rw [ht]; exact (hM.cg (by first | rfl | (simp [-Int32.not_lt, -Int32.not_le, okL, okV, okO, okR, okD, isP, shP, c_pass, sumF, tL, tV, tO, tD, tLV, c_1, up_id]; done) | (simp_all [-Int32.not_lt, -Int32.not_le, okL, okV, okO, okR, okD, isP, shP, c_pass, sumF, tL, tV, tO, tD, tLV, up_id]; done))).1, by rw [ht]; exact hM.2.1, fun q hq => by rw [ht]; exact hM.2.2.1 q hq⟩) hM.2.2.2 dX7_passedOf_9
set_option maxHeartbeats 4000000 in
set_option maxRecDepth 100000 in
theorem k_nearest (la : Launch) (g : EG) (lo : Nat) (ma : Nat → Nat) (hA : MA lo ma) (σ : Sg) (u : Nat → Int64) (l : Int32) (hI : INV σ) : Met la yX7_nearest wsX7_nearest ({ frames := 3, cells := 0, slots := 0, locals := 64 } : Room) (va_Pc [.ref (ma 0), .int l] (fun U => MR g ma σ u U.heap ∧ KK g U)) (QM (.returned (some (.int (if okW σ l ∧ ¬ bestF σ l (nL σ) = -1 then bestF σ l (nL σ) else 0)))) (fun H1 => MR g ma (up σ 0 0 (t_near σ l)) u H1) (mown ma)) 0 0 (fun q => lo ≤ q) := by
  refine Met.ofW (cc := cX7_nearest) (maxL := 4) (ret := (some .int)) (by decide) rfl ?_
  intro p e s m args below meth c s₁ B hml hv
  obtain ⟨rfl, hR0, hK⟩ := hv
  have hx := B.exec
  have hb := B.bytes
  have hr := B.returns
  have hts := atoms_spec (ws := wsX7_nearest) B.pre
  have hown : s.vm.findClass RX7 = some m.cls := findClass_of_methodNamed B.named
  have hlocks := B.notSynchronized
  have hM : MS g lo ma σ u s.heap s.heap [] := MS.start hR0
  have hinX7 : ∀ w ∈ wsX70, w ∈ wsX7_nearest := by decide +kernel
  have lk59 := hts (.fieldLink RX7 59 "DyehouseLedgerModel" "state" "[C") (by decide +kernel)
  have lk92 := hts (.fieldLink RX7 92 "DyehouseLedgerModel" "lots" "I") (by decide +kernel)
  have hl := lv_entry ([.ref (ma 0), .int l]) (n := 4) (Nat.le_of_ble_eq_true rfl)
  rw [lg_entry_eq]
  generalize (lg_sl ([.ref (ma 0), .int l]) ++ List.replicate (4 - (lg_sl ([.ref (ma 0), .int l])).length) Slot.unset).toArray = ls at hl ⊢
  have hl : lv_has ls 4 [(0, .ref (ma 0)), (1, .int l)] := hl
  refine lv_aload_n hx hb dX7_nearest_0 rfl (lv_at hl 0 rfl) ?_
  refine lv_iload_n hx hb dX7_nearest_1 rfl (lv_at hl 1 rfl) ?_
  refine mc_mu (n := 1) (As := [.int l]) (rest := []) (v := [.int (if ¬ (okL σ l ∧ ¬ σ 21 (ti l) = 119) then 1 else 0)]) ⟨hx, hb, hml, hown, hts⟩ hK hM (k_isWaiting la g lo ma hA σ u l hI) gX7_nearest_X7_isWaiting rfl rfl rfl (by decide +kernel) ⟨Nat.le_of_ble_eq_true rfl, Nat.le_of_ble_eq_true rfl⟩ rfl hl.1 rfl (Nat.le_of_ble_eq_true rfl) dX7_nearest_2 ⟨Nat.zero_le _, Nat.zero_le _⟩ rfl (fun H locs hM => ?_)
  refine br_if_eq (c9 := ¬ (okL σ l ∧ ¬ σ 21 (ti l) = 119)) (tgt := 10) hx hb dX7_nearest_5 (by decide) (fun c_1 => ?_) (fun c_1 => ?_)
  · replace c_1 := Decidable.not_not.mp c_1
    replace hM := hM.cg (congrArg (fun z => up σ 0 0 z) (tW_ok c_1))
    have kWl : okW σ l := c_1
    have kl := (okL_in hI l).mp c_1.1
    refine lv_iconst (v := (-1)) hx hb dX7_nearest_10 (by decide) ?_
    refine lv_istore_n (lv' := [(2, .int (-1)), (0, .ref (ma 0)), (1, .int l)]) hx hb dX7_nearest_11 rfl hl (by decide) rfl (fun ls hl => ?_)
    refine lv_iconst (v := 0) hx hb dX7_nearest_12 (by decide) ?_
    refine lv_istore_n (lv' := [(3, .int 0), (2, .int (-1)), (0, .ref (ma 0)), (1, .int l)]) hx hb dX7_nearest_13 rfl hl (by decide) rfl (fun ls hl => ?_)
    have lp14 : ∀ (n9 : Nat) (i : Nat), (i ≤ nL σ) → nL σ - i < n9 → ∀ (H : Heap) (locs : List Loc), MS g lo ma (up σ 0 0 0) u s.heap H locs → ∀ (ls : Array Slot), lv_has ls 4 [(0, .ref (ma 0)), (1, .int l), (2, .int (bestF σ l i)), (3, .int (nI i))] → W p la e ({ frames := 3, cells := 0, slots := 0, locals := 64 } : Room) s m ([.ref (ma 0), .int l] : List Value).toArray below meth c H locs 0 0 (MQ below (QM (.returned (some (.int (if okW σ l ∧ ¬ bestF σ l (nL σ) = -1 then bestF σ l (nL σ) else 0)))) (fun H1 => MR g ma (up σ 0 0 (t_near σ l)) u H1) (mown ma)) ([.ref (ma 0), .int l] : List Value).toArray s 0 0 (fun q => lo ≤ q)) (F0 m 14 ls []) := by
      intro n9_14
      induction n9_14 with
      | zero => intro i _ h9 ; exact absurd h9 (Nat.not_lt_zero _)
      | succ n9_14 ih_14 =>
        intro i hi h9 H locs hM ls hl
        refine lv_iload_n hx hb dX7_nearest_14 rfl (lv_at hl 3 rfl) ?_
        refine lv_aload_n hx hb dX7_nearest_15 rfl (lv_at hl 0 rfl) ?_
        refine m_get (v := .int (σ 3 0)) hx hb hts hinX7 hown hK hM 3 (by decide) lk92 rfl dX7_nearest_16 ?_
        refine lv_icmp_ge (tgt := 66) hx hb dX7_nearest_19 (by decide) (fun c_2 => ?_) (fun c_2 => ?_)
        · replace c_2 := Int32.not_lt.mpr c_2
          obtain rfl : i = nL σ := fnd_eq hI hi c_2
          refine lv_iload_n hx hb dX7_nearest_66 rfl (lv_at hl 2 rfl) ?_
          refine lv_iconst (v := (-1)) hx hb dX7_nearest_67 (by decide) ?_
          refine lv_icmp_ne (tgt := 77) hx hb dX7_nearest_68 (by decide) (fun c_3 => ?_) (fun c_3 => ?_)
          · refine lv_iload_n hx hb dX7_nearest_77 rfl (lv_at hl 2 rfl) ?_
            exact W.iret (v := (bestF σ l (nL σ))) hx hb hr (fun t ht hW => ⟨congrArg (fun z => Outcome.returned (some (Value.int z))) (by first | rfl | (simp [-Int32.not_lt, -Int32.not_le, okL, okV, okO, okR, okD, isP, shP, t_near, bestF, tL, tV, tO, tD, tLV, c_1, kWl, hi, c_2, c_3]; done) | (simp [okW, -Int32.not_lt, -Int32.not_le, okL, okV, okO, okR, okD, isP, shP, t_near, bestF, tL, tV, tO, tD, tLV, c_1, kWl, hi, c_2, c_3]; done) | (simp_all [-Int32.not_lt, -Int32.not_le, okL, okV, okO, okR, okD, isP, shP, t_near, bestF, tL, tV, tO, tD, tLV]; done)), by rw [ht]; exact (hM.cg (by first | rfl | (simp [-Int32.not_lt, -Int32.not_le, okL, okV, okO, okR, okD, isP, shP, t_near, bestF, tL, tV, tO, tD, tLV, c_1, kWl, hi, c_2, c_3, up_id]; done) | (simp [okW, -Int32.not_lt, -Int32.not_le, okL, okV, okO, okR, okD, isP, shP, t_near, bestF, tL, tV, tO, tD, tLV, c_1, kWl, hi, c_2, c_3, up_id]; done) | (simp_all [-Int32.not_lt, -Int32.not_le, okL, okV, okO, okR, okD, isP, shP, t_near, bestF, tL, tV, tO, tD, tLV, up_id]; done))).1, by rw [ht]; exact hM.2.1, fun q hq => by rw [ht]; exact hM.2.2.1 q hq⟩) hM.2.2.2 dX7_nearest_78
          · refine lv_aload_n hx hb dX7_nearest_71 rfl (lv_at hl 0 rfl) ?_
            refine lv_iconst (v := 3) hx hb dX7_nearest_72 (by decide) ?_
            refine mc_mu (n := 1) (As := [.int 3]) (rest := []) (v := [.int 0]) ⟨hx, hb, hml, hown, hts⟩ hK hM (k_refuse la g lo ma hA (up σ 0 0 0) u 3 ) gX7_nearest_X7_refuse rfl rfl rfl (by decide +kernel) ⟨Nat.le_of_ble_eq_true rfl, Nat.le_of_ble_eq_true rfl⟩ rfl hl.1 rfl (Nat.le_of_ble_eq_true rfl) dX7_nearest_73 ⟨Nat.zero_le _, Nat.zero_le _⟩ rfl (fun H locs hM => ?_)
            replace hM := hM.cg (up_up σ 0 0 0 3)
            exact W.iret (v := 0) hx hb hr (fun t ht hW => ⟨congrArg (fun z => Outcome.returned (some (Value.int z))) (by first | rfl | (simp [-Int32.not_lt, -Int32.not_le, okL, okV, okO, okR, okD, isP, shP, t_near, bestF, tL, tV, tO, tD, tLV, c_1, kWl, hi, c_2, c_3]; done) | (simp [okW, -Int32.not_lt, -Int32.not_le, okL, okV, okO, okR, okD, isP, shP, t_near, bestF, tL, tV, tO, tD, tLV, c_1, kWl, hi, c_2, c_3]; done) | (simp_all [-Int32.not_lt, -Int32.not_le, okL, okV, okO, okR, okD, isP, shP, t_near, bestF, tL, tV, tO, tD, tLV]; done)), by rw [ht]; exact (hM.cg (by first | rfl | (simp [-Int32.not_lt, -Int32.not_le, okL, okV, okO, okR, okD, isP, shP, t_near, bestF, tL, tV, tO, tD, tLV, c_1, kWl, hi, c_2, c_3, up_id]; done) | (simp [okW, -Int32.not_lt, -Int32.not_le, okL, okV, okO, okR, okD, isP, shP, t_near, bestF, tL, tV, tO, tD, tLV, c_1, kWl, hi, c_2, c_3, up_id]; done) | (simp_all [-Int32.not_lt, -Int32.not_le, okL, okV, okO, okR, okD, isP, shP, t_near, bestF, tL, tV, tO, tD, tLV, up_id]; done))).1, by rw [ht]; exact hM.2.1, fun q hq => by rw [ht]; exact hM.2.2.1 q hq⟩) hM.2.2.2 dX7_nearest_76
        · replace c_2 := Int32.not_le.mp c_2
          have hi1 : i < nL σ := fnd_lt hI hi c_2
          have hLb := hI.l.1
          refine lv_iload_n hx hb dX7_nearest_22 rfl (lv_at hl 3 rfl) ?_
          refine lv_iload_n hx hb dX7_nearest_23 rfl (lv_at hl 1 rfl) ?_
          refine lv_icmp_eq (tgt := 60) hx hb dX7_nearest_24 (by decide) (fun c_4 => ?_) (fun c_4 => ?_)
          · refine lv_iinc (v := ((nI i) + 1)) (lv' := [(3, .int ((nI i) + 1)), (0, .ref (ma 0)), (1, .int l), (2, .int (bestF σ l i))]) hx hb dX7_nearest_60 hl (k := 3) rfl rfl (by decide) rfl (fun ls hl => ?_)
            refine lv_goto (tgt := 14) hx hb dX7_nearest_63 (by decide) ?_
            have e_5 : ((bestF σ l (i + 1)) : Int32) = (bestF σ l i) := (by first | rfl | (simp [-Int32.not_lt, -Int32.not_le, okL, okV, okO, okR, okD, isP, shP, t_near, bestF, tL, tV, tO, tD, tLV, c_1, kWl, hi, c_2, c_4]; done) | (simp [okW, -Int32.not_lt, -Int32.not_le, okL, okV, okO, okR, okD, isP, shP, t_near, bestF, tL, tV, tO, tD, tLV, c_1, kWl, hi, c_2, c_4]; done) | (simp_all [-Int32.not_lt, -Int32.not_le, okL, okV, okO, okR, okD, isP, shP, t_near, bestF, tL, tV, tO, tD, tLV]; done))
            have e_6 : ((nI (i + 1)) : Int32) = ((nI i) + 1) := (nI_1 i).symm
            have hl2 : lv_has ls 4 [(0, .ref (ma 0)), (1, .int l), (2, .int (bestF σ l (i + 1))), (3, .int (nI (i + 1)))] := by
              rw [e_5, e_6]
              exact lv_sub hl [1, 2, 3, 0] rfl
            exact ih_14 (i + 1) (by omega) (by omega) _ _ hM ls hl2
          · refine lv_aload_n hx hb dX7_nearest_27 rfl (lv_at hl 0 rfl) ?_
            refine m_get (v := .ref (ma 21)) hx hb hts hinX7 hown hK hM 21 (by decide) lk59 rfl dX7_nearest_28 ?_
            refine lv_iload_n hx hb dX7_nearest_31 rfl (lv_at hl 3 rfl) ?_
            refine m_cald (x := (σ 21 i)) hx hb hK hM (i := (nI i)) (vin_mono (vin_nI hi1 (by omega)) hLb) (congrArg ((up σ 0 0 0) 21) (ti_nI (by omega))) dX7_nearest_32 ?_
            refine lv_bipush (v := 112) hx hb dX7_nearest_33 (by decide) ?_
            refine lv_icmp_ne (tgt := 60) hx hb dX7_nearest_35 (by decide) (fun c_7 => ?_) (fun c_7 => ?_)
            · refine lv_iinc (v := ((nI i) + 1)) (lv' := [(3, .int ((nI i) + 1)), (0, .ref (ma 0)), (1, .int l), (2, .int (bestF σ l i))]) hx hb dX7_nearest_60 hl (k := 3) rfl rfl (by decide) rfl (fun ls hl => ?_)
              refine lv_goto (tgt := 14) hx hb dX7_nearest_63 (by decide) ?_
              have e_8 : ((bestF σ l (i + 1)) : Int32) = (bestF σ l i) := (by first | rfl | (simp [-Int32.not_lt, -Int32.not_le, okL, okV, okO, okR, okD, isP, shP, t_near, bestF, tL, tV, tO, tD, tLV, c_1, kWl, hi, c_2, c_4, c_7]; done) | (simp [okW, -Int32.not_lt, -Int32.not_le, okL, okV, okO, okR, okD, isP, shP, t_near, bestF, tL, tV, tO, tD, tLV, c_1, kWl, hi, c_2, c_4, c_7]; done) | (simp_all [-Int32.not_lt, -Int32.not_le, okL, okV, okO, okR, okD, isP, shP, t_near, bestF, tL, tV, tO, tD, tLV]; done))
              have e_9 : ((nI (i + 1)) : Int32) = ((nI i) + 1) := (nI_1 i).symm
              have hl2 : lv_has ls 4 [(0, .ref (ma 0)), (1, .int l), (2, .int (bestF σ l (i + 1))), (3, .int (nI (i + 1)))] := by
                rw [e_8, e_9]
                exact lv_sub hl [1, 2, 3, 0] rfl
              exact ih_14 (i + 1) (by omega) (by omega) _ _ hM ls hl2
            · refine lv_iload_n hx hb dX7_nearest_38 rfl (lv_at hl 2 rfl) ?_
              refine lv_iconst (v := (-1)) hx hb dX7_nearest_39 (by decide) ?_
              refine lv_icmp_eq (tgt := 58) hx hb dX7_nearest_40 (by decide) (fun c_10 => ?_) (fun c_10 => ?_)
              · refine lv_iload_n hx hb dX7_nearest_58 rfl (lv_at hl 3 rfl) ?_
                refine lv_istore_n (lv' := [(2, .int (nI i)), (0, .ref (ma 0)), (1, .int l), (3, .int (nI i))]) hx hb dX7_nearest_59 rfl hl (by decide) rfl (fun ls hl => ?_)
                refine lv_iinc (v := ((nI i) + 1)) (lv' := [(3, .int ((nI i) + 1)), (2, .int (nI i)), (0, .ref (ma 0)), (1, .int l)]) hx hb dX7_nearest_60 hl (k := 3) rfl rfl (by decide) rfl (fun ls hl => ?_)
                refine lv_goto (tgt := 14) hx hb dX7_nearest_63 (by decide) ?_
                have e_11 : ((bestF σ l (i + 1)) : Int32) = (nI i) := (by first | rfl | (simp [-Int32.not_lt, -Int32.not_le, okL, okV, okO, okR, okD, isP, shP, t_near, bestF, tL, tV, tO, tD, tLV, c_1, kWl, hi, c_2, c_4, c_7, c_10]; done) | (simp [okW, -Int32.not_lt, -Int32.not_le, okL, okV, okO, okR, okD, isP, shP, t_near, bestF, tL, tV, tO, tD, tLV, c_1, kWl, hi, c_2, c_4, c_7, c_10]; done) | (simp_all [-Int32.not_lt, -Int32.not_le, okL, okV, okO, okR, okD, isP, shP, t_near, bestF, tL, tV, tO, tD, tLV]; done))
                have e_12 : ((nI (i + 1)) : Int32) = ((nI i) + 1) := (nI_1 i).symm
                have hl2 : lv_has ls 4 [(0, .ref (ma 0)), (1, .int l), (2, .int (bestF σ l (i + 1))), (3, .int (nI (i + 1)))] := by
                  rw [e_11, e_12]
                  exact lv_sub hl [2, 3, 1, 0] rfl
                exact ih_14 (i + 1) (by omega) (by omega) _ _ hM ls hl2
              · refine lv_aload_n hx hb dX7_nearest_43 rfl (lv_at hl 0 rfl) ?_
                refine lv_iload_n hx hb dX7_nearest_44 rfl (lv_at hl 1 rfl) ?_
                refine lv_iload_n hx hb dX7_nearest_45 rfl (lv_at hl 3 rfl) ?_
                refine mc_ro (n := 2) (As := [.int l, .int (nI i)]) (rest := []) (v := [.int (f_apart σ l (nI i))]) ⟨hx, hb, hml, hown, hts⟩ hK hM (k_apart la g ma (up σ 0 0 0) u l (nI i) (hI.up0 _) kl (show vp_in (nI i) (nL σ) from vin_nI hi1 (by omega))) gX7_nearest_X7_apart rfl rfl rfl (by decide +kernel) ⟨Nat.le_of_ble_eq_true rfl, Nat.le_of_ble_eq_true rfl⟩ rfl hl.1 rfl (Nat.le_of_ble_eq_true rfl) dX7_nearest_46 ⟨Nat.zero_le _, Nat.zero_le _⟩ rfl ?_
                refine lv_aload_n hx hb dX7_nearest_49 rfl (lv_at hl 0 rfl) ?_
                refine lv_iload_n hx hb dX7_nearest_50 rfl (lv_at hl 1 rfl) ?_
                refine lv_iload_n hx hb dX7_nearest_51 rfl (lv_at hl 2 rfl) ?_
                refine mc_ro (n := 2) (As := [.int l, .int (bestF σ l i)]) (rest := [.int (f_apart σ l (nI i))]) (v := [.int (f_apart σ l (bestF σ l i))]) ⟨hx, hb, hml, hown, hts⟩ hK hM (k_apart la g ma (up σ 0 0 0) u l (bestF σ l i) (hI.up0 _) kl (bestF_in hI hi (by assumption))) gX7_nearest_X7_apart rfl rfl rfl (by decide +kernel) ⟨Nat.le_of_ble_eq_true rfl, Nat.le_of_ble_eq_true rfl⟩ rfl hl.1 rfl (Nat.le_of_ble_eq_true rfl) dX7_nearest_52 ⟨Nat.zero_le _, Nat.zero_le _⟩ rfl ?_
                refine lv_icmp_ge (tgt := 60) hx hb dX7_nearest_55 (by decide) (fun c_13 => ?_) (fun c_13 => ?_)
                · replace c_13 := Int32.not_lt.mpr c_13
                  refine lv_iinc (v := ((nI i) + 1)) (lv' := [(3, .int ((nI i) + 1)), (0, .ref (ma 0)), (1, .int l), (2, .int (bestF σ l i))]) hx hb dX7_nearest_60 hl (k := 3) rfl rfl (by decide) rfl (fun ls hl => ?_)
                  refine lv_goto (tgt := 14) hx hb dX7_nearest_63 (by decide) ?_
                  have e_14 : ((bestF σ l (i + 1)) : Int32) = (bestF σ l i) := (by first | rfl | (simp [-Int32.not_lt, -Int32.not_le, okL, okV, okO, okR, okD, isP, shP, t_near, bestF, tL, tV, tO, tD, tLV, c_1, kWl, hi, c_2, c_4, c_7, c_10, c_13]; done) | (simp [okW, -Int32.not_lt, -Int32.not_le, okL, okV, okO, okR, okD, isP, shP, t_near, bestF, tL, tV, tO, tD, tLV, c_1, kWl, hi, c_2, c_4, c_7, c_10, c_13]; done) | (simp_all [-Int32.not_lt, -Int32.not_le, okL, okV, okO, okR, okD, isP, shP, t_near, bestF, tL, tV, tO, tD, tLV]; done))
                  have e_15 : ((nI (i + 1)) : Int32) = ((nI i) + 1) := (nI_1 i).symm
                  have hl2 : lv_has ls 4 [(0, .ref (ma 0)), (1, .int l), (2, .int (bestF σ l (i + 1))), (3, .int (nI (i + 1)))] := by
                    rw [e_14, e_15]
                    exact lv_sub hl [1, 2, 3, 0] rfl
                  exact ih_14 (i + 1) (by omega) (by omega) _ _ hM ls hl2
                · replace c_13 := Int32.not_le.mp c_13
                  refine lv_iload_n hx hb dX7_nearest_58 rfl (lv_at hl 3 rfl) ?_
                  refine lv_istore_n (lv' := [(2, .int (nI i)), (0, .ref (ma 0)), (1, .int l), (3, .int (nI i))]) hx hb dX7_nearest_59 rfl hl (by decide) rfl (fun ls hl => ?_)
                  refine lv_iinc (v := ((nI i) + 1)) (lv' := [(3, .int ((nI i) + 1)), (2, .int (nI i)), (0, .ref (ma 0)), (1, .int l)]) hx hb dX7_nearest_60 hl (k := 3) rfl rfl (by decide) rfl (fun ls hl => ?_)
                  refine lv_goto (tgt := 14) hx hb dX7_nearest_63 (by decide) ?_
                  have e_16 : ((bestF σ l (i + 1)) : Int32) = (nI i) := (by first | rfl | (simp [-Int32.not_lt, -Int32.not_le, okL, okV, okO, okR, okD, isP, shP, t_near, bestF, tL, tV, tO, tD, tLV, c_1, kWl, hi, c_2, c_4, c_7, c_10, c_13]; done) | (simp [okW, -Int32.not_lt, -Int32.not_le, okL, okV, okO, okR, okD, isP, shP, t_near, bestF, tL, tV, tO, tD, tLV, c_1, kWl, hi, c_2, c_4, c_7, c_10, c_13]; done) | (simp_all [-Int32.not_lt, -Int32.not_le, okL, okV, okO, okR, okD, isP, shP, t_near, bestF, tL, tV, tO, tD, tLV]; done))
                  have e_17 : ((nI (i + 1)) : Int32) = ((nI i) + 1) := (nI_1 i).symm
                  have hl2 : lv_has ls 4 [(0, .ref (ma 0)), (1, .int l), (2, .int (bestF σ l (i + 1))), (3, .int (nI (i + 1)))] := by
                    rw [e_16, e_17]
                    exact lv_sub hl [2, 3, 1, 0] rfl
                  exact ih_14 (i + 1) (by omega) (by omega) _ _ hM ls hl2
    have e_18 : ((bestF σ l (0)) : Int32) = (-1) := (by first | rfl | (simp [-Int32.not_lt, -Int32.not_le, okL, okV, okO, okR, okD, isP, shP, t_near, bestF, tL, tV, tO, tD, tLV, c_1, kWl]; done) | (simp [okW, -Int32.not_lt, -Int32.not_le, okL, okV, okO, okR, okD, isP, shP, t_near, bestF, tL, tV, tO, tD, tLV, c_1, kWl]; done) | (simp_all [-Int32.not_lt, -Int32.not_le, okL, okV, okO, okR, okD, isP, shP, t_near, bestF, tL, tV, tO, tD, tLV]; done))
    have e_19 : ((nI (0)) : Int32) = 0 := (by first | rfl | (simp [-Int32.not_lt, -Int32.not_le, okL, okV, okO, okR, okD, isP, shP, t_near, bestF, tL, tV, tO, tD, tLV, c_1, kWl]; done) | (simp [okW, -Int32.not_lt, -Int32.not_le, okL, okV, okO, okR, okD, isP, shP, t_near, bestF, tL, tV, tO, tD, tLV, c_1, kWl]; done) | (simp_all [-Int32.not_lt, -Int32.not_le, okL, okV, okO, okR, okD, isP, shP, t_near, bestF, tL, tV, tO, tD, tLV]; done))
    have hl2 : lv_has ls 4 [(0, .ref (ma 0)), (1, .int l), (2, .int (bestF σ l (0))), (3, .int (nI (0)))] := by
      rw [e_18, e_19]
      exact lv_sub hl [2, 3, 1, 0] rfl
    exact lp14 (nL σ - 0 + 1) (0) (Nat.zero_le _) (Nat.lt_succ_self _) _ _ hM ls hl2
  · have kWl : ¬ okW σ l := c_1
    refine lv_iconst (v := 0) hx hb dX7_nearest_8 (by decide) ?_
    exact W.iret (v := 0) hx hb hr (fun t ht hW => ⟨congrArg (fun z => Outcome.returned (some (Value.int z))) (by first | rfl | (simp [-Int32.not_lt, -Int32.not_le, okL, okV, okO, okR, okD, isP, shP, t_near, bestF, tL, tV, tO, tD, tLV, c_1, kWl]; done) | (simp [okW, -Int32.not_lt, -Int32.not_le, okL, okV, okO, okR, okD, isP, shP, t_near, bestF, tL, tV, tO, tD, tLV, c_1, kWl]; done) | (simp_all [-Int32.not_lt, -Int32.not_le, okL, okV, okO, okR, okD, isP, shP, t_near, bestF, tL, tV, tO, tD, tLV]; done)), by rw [ht]; exact (hM.cg (by first | rfl | (simp [-Int32.not_lt, -Int32.not_le, okL, okV, okO, okR, okD, isP, shP, t_near, bestF, tL, tV, tO, tD, tLV, c_1, kWl, up_id]; done) | (simp [okW, -Int32.not_lt, -Int32.not_le, okL, okV, okO, okR, okD, isP, shP, t_near, bestF, tL, tV, tO, tD, tLV, c_1, kWl, up_id]; done) | (simp_all [-Int32.not_lt, -Int32.not_le, okL, okV, okO, okR, okD, isP, shP, t_near, bestF, tL, tV, tO, tD, tLV, up_id]; done))).1, by rw [ht]; exact hM.2.1, fun q hq => by rw [ht]; exact hM.2.2.1 q hq⟩) hM.2.2.2 dX7_nearest_9
