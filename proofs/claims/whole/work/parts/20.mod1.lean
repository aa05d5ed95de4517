set_option maxHeartbeats 4000000 in
set_option maxRecDepth 100000 in
theorem k_isIn (la : Launch) (x low high : Int32) : Met la yX7_isIn wsX7_isIn ({ frames := 0, cells := 0, slots := 0, locals := 0 } : Room) (va_Pc [.int x, .int low, .int high] (fun _ => True)) (QR (.returned (some (.int (if isP x low high then 1 else 0))))) 0 0 (fun _ => False) := by
  refine Met.ofW (cc := cX7_isIn) (maxL := 3) (ret := (some .boolean)) (by decide) rfl ?_
  intro p e s m args below meth c s₁ B hml hv
  obtain ⟨rfl, -⟩ := hv
  have hx := B.exec
  have hb := B.bytes
  have hr := B.returns
  have hts := atoms_spec (ws := wsX7_isIn) B.pre
  have hown : s.vm.findClass RX7 = some m.cls := findClass_of_methodNamed B.named
  have hlocks := B.notSynchronized
  have hl := lv_entry ([.int x, .int low, .int high]) (n := 3) (Nat.le_of_ble_eq_true rfl)
  rw [lg_entry_eq]
  generalize (lg_sl ([.int x, .int low, .int high]) ++ List.replicate (3 - (lg_sl ([.int x, .int low, .int high])).length) Slot.unset).toArray = ls at hl ⊢
  have hl : lv_has ls 3 [(0, .int x), (1, .int low), (2, .int high)] := hl
  refine lv_iload_n hx hb dX7_isIn_0 rfl (lv_at hl 0 rfl) ?_
  refine lv_iload_n hx hb dX7_isIn_1 rfl (lv_at hl 1 rfl) ?_
  refine lv_icmp_lt (tgt := 14) hx hb dX7_isIn_2 (by decide) (fun c_1 => ?_) (fun c_1 => ?_)
  · refine lv_iconst (v := 0) hx hb dX7_isIn_14 (by decide) ?_
    exact W.zret (v := 0) hx hb hr rfl (fun t ht hW => ⟨congrArg (fun z => Outcome.returned (some (Value.int z))) (by first | rfl | (simp [-Int32.not_lt, -Int32.not_le, okL, okV, okO, okR, okD, isP, shP, isP, c_1]; done) | (simp_all [-Int32.not_lt, -Int32.not_le, okL, okV, okO, okR, okD, isP, shP, isP]; done)), ht⟩) (fun _ h => nomatch h) dX7_isIn_15
  · refine lv_iload_n hx hb dX7_isIn_5 rfl (lv_at hl 0 rfl) ?_
    refine lv_iload_n hx hb dX7_isIn_6 rfl (lv_at hl 2 rfl) ?_
    refine lv_icmp_gt (tgt := 14) hx hb dX7_isIn_7 (by decide) (fun c_2 => ?_) (fun c_2 => ?_)
    · refine lv_iconst (v := 0) hx hb dX7_isIn_14 (by decide) ?_
      exact W.zret (v := 0) hx hb hr rfl (fun t ht hW => ⟨congrArg (fun z => Outcome.returned (some (Value.int z))) (by first | rfl | (simp [-Int32.not_lt, -Int32.not_le, okL, okV, okO, okR, okD, isP, shP, isP, c_1, c_2]; done) | (simp_all [-Int32.not_lt, -Int32.not_le, okL, okV, okO, okR, okD, isP, shP, isP]; done)), ht⟩) (fun _ h => nomatch h) dX7_isIn_15
    · refine lv_iconst (v := 1) hx hb dX7_isIn_10 (by decide) ?_
      refine lv_goto (tgt := 15) hx hb dX7_isIn_11 (by decide) ?_
      exact W.zret (v := 1) hx hb hr rfl (fun t ht hW => ⟨congrArg (fun z => Outcome.returned (some (Value.int z))) (by first | rfl | (simp [-Int32.not_lt, -Int32.not_le, okL, okV, okO, okR, okD, isP, shP, isP, c_1, c_2]; done) | (simp_all [-Int32.not_lt, -Int32.not_le, okL, okV, okO, okR, okD, isP, shP, isP]; done)), ht⟩) (fun _ h => nomatch h) dX7_isIn_15
set_option maxHeartbeats 4000000 in
set_option maxRecDepth 100000 in
theorem k_isShade (la : Launch) (x0 x1 x2 : Int32) : Met la yX7_isShade wsX7_isShade ({ frames := 1, cells := 0, slots := 0, locals := 22 } : Room) (va_Pc [.int x0, .int x1, .int x2] (fun _ => True)) (QR (.returned (some (.int (if shP x0 x1 x2 then 1 else 0))))) 0 0 (fun _ => False) := by
  refine Met.ofW (cc := cX7_isShade) (maxL := 3) (ret := (some .boolean)) (by decide) rfl ?_
  intro p e s m args below meth c s₁ B hml hv
  obtain ⟨rfl, -⟩ := hv
  have hx := B.exec
  have hb := B.bytes
  have hr := B.returns
  have hts := atoms_spec (ws := wsX7_isShade) B.pre
  have hown : s.vm.findClass RX7 = some m.cls := findClass_of_methodNamed B.named
  have hlocks := B.notSynchronized
  have hl := lv_entry ([.int x0, .int x1, .int x2]) (n := 3) (Nat.le_of_ble_eq_true rfl)
  rw [lg_entry_eq]
  generalize (lg_sl ([.int x0, .int x1, .int x2]) ++ List.replicate (3 - (lg_sl ([.int x0, .int x1, .int x2])).length) Slot.unset).toArray = ls at hl ⊢
  have hl : lv_has ls 3 [(0, .int x0), (1, .int x1), (2, .int x2)] := hl
  refine lv_iload_n hx hb dX7_isShade_0 rfl (lv_at hl 0 rfl) ?_
  refine lv_iconst (v := 0) hx hb dX7_isShade_1 (by decide) ?_
  refine lv_bipush (v := 20) hx hb dX7_isShade_2 (by decide) ?_
  refine sc_ro (n := 3) (As := [.int x0, .int 0, .int 20]) (rest := []) (v := [.int (if isP x0 0 20 then 1 else 0)]) ⟨hx, hb, hml, hown, hts⟩ (k_isIn la x0 0 20) gX7_isShade_X7_isIn rfl rfl rfl (by decide +kernel) ⟨Nat.le_of_ble_eq_true rfl, Nat.le_of_ble_eq_true rfl⟩ rfl hl.1 rfl (Nat.le_of_ble_eq_true rfl) dX7_isShade_4 ⟨Nat.zero_le _, Nat.zero_le _⟩ rfl ?_
  refine br_if_eq (c9 := isP x0 0 20) (tgt := 34) hx hb dX7_isShade_7 (by decide) (fun c_1 => ?_) (fun c_1 => ?_)
  · refine lv_iconst (v := 0) hx hb dX7_isShade_34 (by decide) ?_
    exact W.zret (v := 0) hx hb hr rfl (fun t ht hW => ⟨congrArg (fun z => Outcome.returned (some (Value.int z))) (by first | rfl | (simp [-Int32.not_lt, -Int32.not_le, okL, okV, okO, okR, okD, isP, shP, c_1]; done) | (simp_all [-Int32.not_lt, -Int32.not_le, okL, okV, okO, okR, okD, isP, shP]; done)), ht⟩) (fun _ h => nomatch h) dX7_isShade_35
  · refine lv_iload_n hx hb dX7_isShade_10 rfl (lv_at hl 1 rfl) ?_
    refine lv_iconst (v := 0) hx hb dX7_isShade_11 (by decide) ?_
    refine lv_bipush (v := 20) hx hb dX7_isShade_12 (by decide) ?_
    refine sc_ro (n := 3) (As := [.int x1, .int 0, .int 20]) (rest := []) (v := [.int (if isP x1 0 20 then 1 else 0)]) ⟨hx, hb, hml, hown, hts⟩ (k_isIn la x1 0 20) gX7_isShade_X7_isIn rfl rfl rfl (by decide +kernel) ⟨Nat.le_of_ble_eq_true rfl, Nat.le_of_ble_eq_true rfl⟩ rfl hl.1 rfl (Nat.le_of_ble_eq_true rfl) dX7_isShade_14 ⟨Nat.zero_le _, Nat.zero_le _⟩ rfl ?_
    refine br_if_eq (c9 := isP x1 0 20) (tgt := 34) hx hb dX7_isShade_17 (by decide) (fun c_2 => ?_) (fun c_2 => ?_)
    · refine lv_iconst (v := 0) hx hb dX7_isShade_34 (by decide) ?_
      exact W.zret (v := 0) hx hb hr rfl (fun t ht hW => ⟨congrArg (fun z => Outcome.returned (some (Value.int z))) (by first | rfl | (simp [-Int32.not_lt, -Int32.not_le, okL, okV, okO, okR, okD, isP, shP, c_1, c_2]; done) | (simp_all [-Int32.not_lt, -Int32.not_le, okL, okV, okO, okR, okD, isP, shP]; done)), ht⟩) (fun _ h => nomatch h) dX7_isShade_35
    · refine lv_iload_n hx hb dX7_isShade_20 rfl (lv_at hl 2 rfl) ?_
      refine lv_iconst (v := 0) hx hb dX7_isShade_21 (by decide) ?_
      refine lv_bipush (v := 20) hx hb dX7_isShade_22 (by decide) ?_
      refine sc_ro (n := 3) (As := [.int x2, .int 0, .int 20]) (rest := []) (v := [.int (if isP x2 0 20 then 1 else 0)]) ⟨hx, hb, hml, hown, hts⟩ (k_isIn la x2 0 20) gX7_isShade_X7_isIn rfl rfl rfl (by decide +kernel) ⟨Nat.le_of_ble_eq_true rfl, Nat.le_of_ble_eq_true rfl⟩ rfl hl.1 rfl (Nat.le_of_ble_eq_true rfl) dX7_isShade_24 ⟨Nat.zero_le _, Nat.zero_le _⟩ rfl ?_
      refine br_if_eq (c9 := isP x2 0 20) (tgt := 34) hx hb dX7_isShade_27 (by decide) (fun c_3 => ?_) (fun c_3 => ?_)
      · refine lv_iconst (v := 0) hx hb dX7_isShade_34 (by decide) ?_
        exact W.zret (v := 0) hx hb hr rfl (fun t ht hW => ⟨congrArg (fun z => Outcome.returned (some (Value.int z))) (by first | rfl | (simp [-Int32.not_lt, -Int32.not_le, okL, okV, okO, okR, okD, isP, shP, c_1, c_2, c_3]; done) | (simp_all [-Int32.not_lt, -Int32.not_le, okL, okV, okO, okR, okD, isP, shP]; done)), ht⟩) (fun _ h => nomatch h) dX7_isShade_35
      · refine lv_iconst (v := 1) hx hb dX7_isShade_30 (by decide) ?_
        refine lv_goto (tgt := 35) hx hb dX7_isShade_31 (by decide) ?_
        exact W.zret (v := 1) hx hb hr rfl (fun t ht hW => ⟨congrArg (fun z => Outcome.returned (some (Value.int z))) (by first | rfl | (simp [-Int32.not_lt, -Int32.not_le, okL, okV, okO, okR, okD, isP, shP, c_1, c_2, c_3]; done) | (simp_all [-Int32.not_lt, -Int32.not_le, okL, okV, okO, okR, okD, isP, shP]; done)), ht⟩) (fun _ h => nomatch h) dX7_isShade_35
set_option maxHeartbeats 4000000 in
set_option maxRecDepth 100000 in
theorem k_gap (la : Launch) (a b : Int32) : Met la yX7_gap wsX7_gap ({ frames := 0, cells := 0, slots := 0, locals := 0 } : Room) (va_Pc [.int a, .int b] (fun _ => True)) (QR (.returned (some (.int (f_gap a b))))) 0 0 (fun _ => False) := by
  refine Met.ofW (cc := cX7_gap) (maxL := 2) (ret := (some .int)) (by decide) rfl ?_
  intro p e s m args below meth c s₁ B hml hv
  obtain ⟨rfl, -⟩ := hv
  have hx := B.exec
  have hb := B.bytes
  have hr := B.returns
  have hts := atoms_spec (ws := wsX7_gap) B.pre
  have hown : s.vm.findClass RX7 = some m.cls := findClass_of_methodNamed B.named
  have hlocks := B.notSynchronized
  have hl := lv_entry ([.int a, .int b]) (n := 2) (Nat.le_of_ble_eq_true rfl)
  rw [lg_entry_eq]
  generalize (lg_sl ([.int a, .int b]) ++ List.replicate (2 - (lg_sl ([.int a, .int b])).length) Slot.unset).toArray = ls at hl ⊢
  have hl : lv_has ls 2 [(0, .int a), (1, .int b)] := hl
  refine lv_iload_n hx hb dX7_gap_0 rfl (lv_at hl 0 rfl) ?_
  refine lv_iload_n hx hb dX7_gap_1 rfl (lv_at hl 1 rfl) ?_
  refine lv_icmp_ge (tgt := 11) hx hb dX7_gap_2 (by decide) (fun c_1 => ?_) (fun c_1 => ?_)
  · replace c_1 := Int32.not_lt.mpr c_1
    refine lv_iload_n hx hb dX7_gap_11 rfl (lv_at hl 0 rfl) ?_
    refine lv_iload_n hx hb dX7_gap_12 rfl (lv_at hl 1 rfl) ?_
    refine lv_isub hx hb dX7_gap_13 ?_
    exact W.iret (v := (a - b)) hx hb hr (fun t ht hW => ⟨congrArg (fun z => Outcome.returned (some (Value.int z))) (by first | rfl | (simp [-Int32.not_lt, -Int32.not_le, okL, okV, okO, okR, okD, isP, shP, f_gap, c_1]; done) | (simp_all [-Int32.not_lt, -Int32.not_le, okL, okV, okO, okR, okD, isP, shP, f_gap]; done)), ht⟩) (fun _ h => nomatch h) dX7_gap_14
  · replace c_1 := Int32.not_le.mp c_1
    refine lv_iload_n hx hb dX7_gap_5 rfl (lv_at hl 1 rfl) ?_
    refine lv_iload_n hx hb dX7_gap_6 rfl (lv_at hl 0 rfl) ?_
    refine lv_isub hx hb dX7_gap_7 ?_
    refine lv_goto (tgt := 14) hx hb dX7_gap_8 (by decide) ?_
    exact W.iret (v := (b - a)) hx hb hr (fun t ht hW => ⟨congrArg (fun z => Outcome.returned (some (Value.int z))) (by first | rfl | (simp [-Int32.not_lt, -Int32.not_le, okL, okV, okO, okR, okD, isP, shP, f_gap, c_1]; done) | (simp_all [-Int32.not_lt, -Int32.not_le, okL, okV, okO, okR, okD, isP, shP, f_gap]; done)), ht⟩) (fun _ h => nomatch h) dX7_gap_14
set_option maxHeartbeats 4000000 in
set_option maxRecDepth 100000 in
theorem k_refuse (la : Launch) (g : EG) (lo : Nat) (ma : Nat → Nat) (hA : MA lo ma) (σ : Sg) (u : Nat → Int64) (k : Int32) : Met la yX7_refuse wsX7_refuse ({ frames := 0, cells := 0, slots := 0, locals := 0 } : Room) (va_Pc [.ref (ma 0), .int k] (fun U => MR g ma σ u U.heap ∧ KK g U)) (QM (.returned (some (.int 0))) (fun H1 => MR g ma (up σ 0 0 k) u H1) (mown ma)) 0 0 (fun q => lo ≤ q) := by
  refine Met.ofW (cc := cX7_refuse) (maxL := 2) (ret := (some .int)) (by decide) rfl ?_
  intro p e s m args below meth c s₁ B hml hv
  obtain ⟨rfl, hR0, hK⟩ := hv
  have hx := B.exec
  have hb := B.bytes
  have hr := B.returns
  have hts := atoms_spec (ws := wsX7_refuse) B.pre
  have hown : s.vm.findClass RX7 = some m.cls := findClass_of_methodNamed B.named
  have hlocks := B.notSynchronized
  have hM : MS g lo ma σ u s.heap s.heap [] := MS.start hR0
  have hinX7 : ∀ w ∈ wsX70, w ∈ wsX7_refuse := by decide +kernel
  have lk84 := hts (.fieldLink RX7 84 "DyehouseLedgerModel" "thrown" "I") (by decide +kernel)
  have hl := lv_entry ([.ref (ma 0), .int k]) (n := 2) (Nat.le_of_ble_eq_true rfl)
  rw [lg_entry_eq]
  generalize (lg_sl ([.ref (ma 0), .int k]) ++ List.replicate (2 - (lg_sl ([.ref (ma 0), .int k])).length) Slot.unset).toArray = ls at hl ⊢
  have hl : lv_has ls 2 [(0, .ref (ma 0)), (1, .int k)] := hl
  refine lv_aload_n hx hb dX7_refuse_0 rfl (lv_at hl 0 rfl) ?_
  refine lv_iload_n hx hb dX7_refuse_1 rfl (lv_at hl 1 rfl) ?_
  refine m_put hx hb hA hts hinX7 hown hK hM 0 (by decide) lk84 dX7_refuse_2 (fun H locs hM => ?_)
  refine lv_iconst (v := 0) hx hb dX7_refuse_5 (by decide) ?_
  exact W.iret (v := 0) hx hb hr (fun t ht hW => ⟨congrArg (fun z => Outcome.returned (some (Value.int z))) (by first | rfl | (simp [-Int32.not_lt, -Int32.not_le, okL, okV, okO, okR, okD, isP, shP]; done) | (simp_all [-Int32.not_lt, -Int32.not_le, okL, okV, okO, okR, okD, isP, shP]; done)), by rw [ht]; exact (hM.cg (by first | rfl | (simp [-Int32.not_lt, -Int32.not_le, okL, okV, okO, okR, okD, isP, shP, up_id]; done) | (simp_all [-Int32.not_lt, -Int32.not_le, okL, okV, okO, okR, okD, isP, shP, up_id]; done))).1, by rw [ht]; exact hM.2.1, fun q hq => by rw [ht]; exact hM.2.2.1 q hq⟩) hM.2.2.2 dX7_refuse_6
set_option maxHeartbeats 4000000 in
set_option maxRecDepth 100000 in
theorem k_noLot (la : Launch) (g : EG) (lo : Nat) (ma : Nat → Nat) (hA : MA lo ma) (σ : Sg) (u : Nat → Int64) (l : Int32) : Met la yX7_noLot wsX7_noLot ({ frames := 1, cells := 0, slots := 0, locals := 22 } : Room) (va_Pc [.ref (ma 0), .int l] (fun U => MR g ma σ u U.heap ∧ KK g U)) (QM (.returned (some (.int (if ¬ okL σ l then 1 else 0)))) (fun H1 => MR g ma (up σ 0 0 (if okL σ l then 0 else 1)) u H1) (mown ma)) 0 0 (fun q => lo ≤ q) := by
  refine Met.ofW (cc := cX7_noLot) (maxL := 2) (ret := (some .boolean)) (by decide) rfl ?_
  intro p e s m args below meth c s₁ B hml hv
  obtain ⟨rfl, hR0, hK⟩ := hv
  have hx := B.exec
  have hb := B.bytes
  have hr := B.returns
  have hts := atoms_spec (ws := wsX7_noLot) B.pre
  have hown : s.vm.findClass RX7 = some m.cls := findClass_of_methodNamed B.named
  have hlocks := B.notSynchronized
  have hM : MS g lo ma σ u s.heap s.heap [] := MS.start hR0
  have hinX7 : ∀ w ∈ wsX70, w ∈ wsX7_noLot := by decide +kernel
  have lk84 := hts (.fieldLink RX7 84 "DyehouseLedgerModel" "thrown" "I") (by decide +kernel)
  have lk92 := hts (.fieldLink RX7 92 "DyehouseLedgerModel" "lots" "I") (by decide +kernel)
  have hl := lv_entry ([.ref (ma 0), .int l]) (n := 2) (Nat.le_of_ble_eq_true rfl)
  rw [lg_entry_eq]
  generalize (lg_sl ([.ref (ma 0), .int l]) ++ List.replicate (2 - (lg_sl ([.ref (ma 0), .int l])).length) Slot.unset).toArray = ls at hl ⊢
  have hl : lv_has ls 2 [(0, .ref (ma 0)), (1, .int l)] := hl
  refine lv_aload_n hx hb dX7_noLot_0 rfl (lv_at hl 0 rfl) ?_
  refine lv_iload_n hx hb dX7_noLot_1 rfl (lv_at hl 1 rfl) ?_
  refine lv_iconst (v := 0) hx hb dX7_noLot_2 (by decide) ?_
  refine lv_aload_n hx hb dX7_noLot_3 rfl (lv_at hl 0 rfl) ?_
  refine m_get (v := .int (σ 3 0)) hx hb hts hinX7 hown hK hM 3 (by decide) lk92 rfl dX7_noLot_4 ?_
  refine lv_iconst (v := 1) hx hb dX7_noLot_7 (by decide) ?_
  refine lv_isub hx hb dX7_noLot_8 ?_
  refine sc_ro (n := 3) (As := [.int l, .int 0, .int ((σ 3 0) - 1)]) (rest := [.ref (ma 0)]) (v := [.int (if isP l 0 ((σ 3 0) - 1) then 1 else 0)]) ⟨hx, hb, hml, hown, hts⟩ (k_isIn la l 0 ((σ 3 0) - 1)) gX7_noLot_X7_isIn rfl rfl rfl (by decide +kernel) ⟨Nat.le_of_ble_eq_true rfl, Nat.le_of_ble_eq_true rfl⟩ rfl hl.1 rfl (Nat.le_of_ble_eq_true rfl) dX7_noLot_9 ⟨Nat.zero_le _, Nat.zero_le _⟩ rfl ?_
  refine br_if_eq (c9 := isP l 0 ((σ 3 0) - 1)) (tgt := 19) hx hb dX7_noLot_12 (by decide) (fun c_1 => ?_) (fun c_1 => ?_)
  · refine lv_iconst (v := 1) hx hb dX7_noLot_19 (by decide) ?_
    refine m_put hx hb hA hts hinX7 hown hK hM 0 (by decide) lk84 dX7_noLot_20 (fun H locs hM => ?_)
    refine lv_aload_n hx hb dX7_noLot_23 rfl (lv_at hl 0 rfl) ?_
    refine m_get (v := .int 1) hx hb hts hinX7 hown hK hM 0 (by decide) lk84 rfl dX7_noLot_24 ?_
    refine lv_if_eq (tgt := 34) hx hb dX7_noLot_27 (by decide) (fun c_2 => ?_) (fun c_2 => ?_)
    · exact absurd c_2 (by decide)
    · refine lv_iconst (v := 1) hx hb dX7_noLot_30 (by decide) ?_
      refine lv_goto (tgt := 35) hx hb dX7_noLot_31 (by decide) ?_
      exact W.zret (v := 1) hx hb hr rfl (fun t ht hW => ⟨congrArg (fun z => Outcome.returned (some (Value.int z))) (by first | rfl | (simp [-Int32.not_lt, -Int32.not_le, okL, okV, okO, okR, okD, isP, shP, c_1, c_2]; done) | (simp_all [-Int32.not_lt, -Int32.not_le, okL, okV, okO, okR, okD, isP, shP]; done)), by rw [ht]; exact (hM.cg (by first | rfl | (simp [-Int32.not_lt, -Int32.not_le, okL, okV, okO, okR, okD, isP, shP, c_1, c_2, up_id]; done) | (simp_all [-Int32.not_lt, -Int32.not_le, okL, okV, okO, okR, okD, isP, shP, up_id]; done))).1, by rw [ht]; exact hM.2.1, fun q hq => by rw [ht]; exact hM.2.2.1 q hq⟩) hM.2.2.2 dX7_noLot_35
  · refine lv_iconst (v := 0) hx hb dX7_noLot_15 (by decide) ?_
    refine lv_goto (tgt := 20) hx hb dX7_noLot_16 (by decide) ?_
    refine m_put hx hb hA hts hinX7 hown hK hM 0 (by decide) lk84 dX7_noLot_20 (fun H locs hM => ?_)
    refine lv_aload_n hx hb dX7_noLot_23 rfl (lv_at hl 0 rfl) ?_
    refine m_get (v := .int 0) hx hb hts hinX7 hown hK hM 0 (by decide) lk84 rfl dX7_noLot_24 ?_
    refine lv_if_eq (tgt := 34) hx hb dX7_noLot_27 (by decide) (fun c_3 => ?_) (fun c_3 => ?_)
    · refine lv_iconst (v := 0) hx hb dX7_noLot_34 (by decide) ?_
      exact W.zret (v := 0) hx hb hr rfl (fun t ht hW => ⟨congrArg (fun z => Outcome.returned (some (Value.int z))) (by first | rfl | (simp [-Int32.not_lt, -Int32.not_le, okL, okV, okO, okR, okD, isP, shP, c_1, c_3]; done) | (simp_all [-Int32.not_lt, -Int32.not_le, okL, okV, okO, okR, okD, isP, shP]; done)), by rw [ht]; exact (hM.cg (by first | rfl | (simp [-Int32.not_lt, -Int32.not_le, okL, okV, okO, okR, okD, isP, shP, c_1, c_3, up_id]; done) | (simp_all [-Int32.not_lt, -Int32.not_le, okL, okV, okO, okR, okD, isP, shP, up_id]; done))).1, by rw [ht]; exact hM.2.1, fun q hq => by rw [ht]; exact hM.2.2.1 q hq⟩) hM.2.2.2 dX7_noLot_35
    · exact absurd c_3 (by decide)
set_option maxHeartbeats 4000000 in
set_option maxRecDepth 100000 in
theorem k_noVat (la : Launch) (g : EG) (lo : Nat) (ma : Nat → Nat) (hA : MA lo ma) (σ : Sg) (u : Nat → Int64) (v : Int32) : Met la yX7_noVat wsX7_noVat ({ frames := 1, cells := 0, slots := 0, locals := 22 } : Room) (va_Pc [.ref (ma 0), .int v] (fun U => MR g ma σ u U.heap ∧ KK g U)) (QM (.returned (some (.int (if ¬ okV σ v then 1 else 0)))) (fun H1 => MR g ma (up σ 0 0 (if okV σ v then 0 else 1)) u H1) (mown ma)) 0 0 (fun q => lo ≤ q) := by
  refine Met.ofW (cc := cX7_noVat) (maxL := 2) (ret := (some .boolean)) (by decide) rfl ?_
  intro p e s m args below meth c s₁ B hml hv
  obtain ⟨rfl, hR0, hK⟩ := hv
  have hx := B.exec
  have hb := B.bytes
  have hr := B.returns
  have hts := atoms_spec (ws := wsX7_noVat) B.pre
  have hown : s.vm.findClass RX7 = some m.cls := findClass_of_methodNamed B.named
  have hlocks := B.notSynchronized
  have hM : MS g lo ma σ u s.heap s.heap [] := MS.start hR0
  have hinX7 : ∀ w ∈ wsX70, w ∈ wsX7_noVat := by decide +kernel
  have lk84 := hts (.fieldLink RX7 84 "DyehouseLedgerModel" "thrown" "I") (by decide +kernel)
  have lk95 := hts (.fieldLink RX7 95 "DyehouseLedgerModel" "vats" "I") (by decide +kernel)
  have hl := lv_entry ([.ref (ma 0), .int v]) (n := 2) (Nat.le_of_ble_eq_true rfl)
  rw [lg_entry_eq]
  generalize (lg_sl ([.ref (ma 0), .int v]) ++ List.replicate (2 - (lg_sl ([.ref (ma 0), .int v])).length) Slot.unset).toArray = ls at hl ⊢
  have hl : lv_has ls 2 [(0, .ref (ma 0)), (1, .int v)] := hl
  refine lv_aload_n hx hb dX7_noVat_0 rfl (lv_at hl 0 rfl) ?_
  refine lv_iload_n hx hb dX7_noVat_1 rfl (lv_at hl 1 rfl) ?_
  refine lv_iconst (v := 0) hx hb dX7_noVat_2 (by decide) ?_
  refine lv_aload_n hx hb dX7_noVat_3 rfl (lv_at hl 0 rfl) ?_
  refine m_get (v := .int (σ 4 0)) hx hb hts hinX7 hown hK hM 4 (by decide) lk95 rfl dX7_noVat_4 ?_
  refine lv_iconst (v := 1) hx hb dX7_noVat_7 (by decide) ?_
  refine lv_isub hx hb dX7_noVat_8 ?_
  refine sc_ro (n := 3) (As := [.int v, .int 0, .int ((σ 4 0) - 1)]) (rest := [.ref (ma 0)]) (v := [.int (if isP v 0 ((σ 4 0) - 1) then 1 else 0)]) ⟨hx, hb, hml, hown, hts⟩ (k_isIn la v 0 ((σ 4 0) - 1)) gX7_noVat_X7_isIn rfl rfl rfl (by decide +kernel) ⟨Nat.le_of_ble_eq_true rfl, Nat.le_of_ble_eq_true rfl⟩ rfl hl.1 rfl (Nat.le_of_ble_eq_true rfl) dX7_noVat_9 ⟨Nat.zero_le _, Nat.zero_le _⟩ rfl ?_
  refine br_if_eq (c9 := isP v 0 ((σ 4 0) - 1)) (tgt := 19) hx hb dX7_noVat_12 (by decide) (fun c_1 => ?_) (fun c_1 => ?_)
  · refine lv_iconst (v := 1) hx hb dX7_noVat_19 (by decide) ?_
    refine m_put hx hb hA hts hinX7 hown hK hM 0 (by decide) lk84 dX7_noVat_20 (fun H locs hM => ?_)
    refine lv_aload_n hx hb dX7_noVat_23 rfl (lv_at hl 0 rfl) ?_
    refine m_get (v := .int 1) hx hb hts hinX7 hown hK hM 0 (by decide) lk84 rfl dX7_noVat_24 ?_
    refine lv_if_eq (tgt := 34) hx hb dX7_noVat_27 (by decide) (fun c_2 => ?_) (fun c_2 => ?_)
    · exact absurd c_2 (by decide)
    · refine lv_iconst (v := 1) hx hb dX7_noVat_30 (by decide) ?_
      refine lv_goto (tgt := 35) hx hb dX7_noVat_31 (by decide) ?_
      exact W.zret (v := 1) hx hb hr rfl (fun t ht hW => ⟨congrArg (fun z => Outcome.returned (some (Value.int z))) (by first | rfl | (simp [-Int32.not_lt, -Int32.not_le, okL, okV, okO, okR, okD, isP, shP, c_1, c_2]; done) | (simp_all [-Int32.not_lt, -Int32.not_le, okL, okV, okO, okR, okD, isP, shP]; done)), by rw [ht]; exact (hM.cg (by first | rfl | (simp [-Int32.not_lt, -Int32.not_le, okL, okV, okO, okR, okD, isP, shP, c_1, c_2, up_id]; done) | (simp_all [-Int32.not_lt, -Int32.not_le, okL, okV, okO, okR, okD, isP, shP, up_id]; done))).1, by rw [ht]; exact hM.2.1, fun q hq => by rw [ht]; exact hM.2.2.1 q hq⟩) hM.2.2.2 dX7_noVat_35
  · refine lv_iconst (v := 0) hx hb dX7_noVat_15 (by decide) ?_
    refine lv_goto (tgt := 20) hx hb dX7_noVat_16 (by decide) ?_
    refine m_put hx hb hA hts hinX7 hown hK hM 0 (by decide) lk84 dX7_noVat_20 (fun H locs hM => ?_)
    refine lv_aload_n hx hb dX7_noVat_23 rfl (lv_at hl 0 rfl) ?_
    refine m_get (v := .int 0) hx hb hts hinX7 hown hK hM 0 (by decide) lk84 rfl dX7_noVat_24 ?_
    refine lv_if_eq (tgt := 34) hx hb dX7_noVat_27 (by decide) (fun c_3 => ?_) (fun c_3 => ?_)
    · refine lv_iconst (v := 0) hx hb dX7_noVat_34 (by decide) ?_
      exact W.zret (v := 0) hx hb hr rfl (fun t ht hW => ⟨congrArg (fun z => Outcome.returned (some (Value.int z))) (by first | rfl | (simp [-Int32.not_lt, -Int32.not_le, okL, okV, okO, okR, okD, isP, shP, c_1, c_3]; done) | (simp_all [-Int32.not_lt, -Int32.not_le, okL, okV, okO, okR, okD, isP, shP]; done)), by rw [ht]; exact (hM.cg (by first | rfl | (simp [-Int32.not_lt, -Int32.not_le, okL, okV, okO, okR, okD, isP, shP, c_1, c_3, up_id]; done) | (simp_all [-Int32.not_lt, -Int32.not_le, okL, okV, okO, okR, okD, isP, shP, up_id]; done))).1, by rw [ht]; exact hM.2.1, fun q hq => by rw [ht]; exact hM.2.2.1 q hq⟩) hM.2.2.2 dX7_noVat_35
    · exact absurd c_3 (by decide)
set_option maxHeartbeats 4000000 in
set_option maxRecDepth 100000 in
theorem k_noOrder (la : Launch) (g : EG) (lo : Nat) (ma : Nat → Nat) (hA : MA lo ma) (σ : Sg) (u : Nat → Int64) (o : Int32) : Met la yX7_noOrder wsX7_noOrder ({ frames := 1, cells := 0, slots := 0, locals := 22 } : Room) (va_Pc [.ref (ma 0), .int o] (fun U => MR g ma σ u U.heap ∧ KK g U)) (QM (.returned (some (.int (if ¬ okO σ o then 1 else 0)))) (fun H1 => MR g ma (up σ 0 0 (if okO σ o then 0 else 1)) u H1) (mown ma)) 0 0 (fun q => lo ≤ q) := by
  refine Met.ofW (cc := cX7_noOrder) (maxL := 2) (ret := (some .boolean)) (by decide) rfl ?_
  intro p e s m args below meth c s₁ B hml hv
  obtain ⟨rfl, hR0, hK⟩ := hv
  have hx := B.exec
  have hb := B.bytes
  have hr := B.returns
  have hts := atoms_spec (ws := wsX7_noOrder) B.pre
  have hown : s.vm.findClass RX7 = some m.cls := findClass_of_methodNamed B.named
  have hlocks := B.notSynchronized
  have hM : MS g lo ma σ u s.heap s.heap [] := MS.start hR0
  have hinX7 : ∀ w ∈ wsX70, w ∈ wsX7_noOrder := by decide +kernel
  have lk84 := hts (.fieldLink RX7 84 "DyehouseLedgerModel" "thrown" "I") (by decide +kernel)
  have lk98 := hts (.fieldLink RX7 98 "DyehouseLedgerModel" "orders" "I") (by decide +kernel)
  have hl := lv_entry ([.ref (ma 0), .int o]) (n := 2) (Nat.le_of_ble_eq_true rfl)
  rw [lg_entry_eq]
  generalize (lg_sl ([.ref (ma 0), .int o]) ++ List.replicate (2 - (lg_sl ([.ref (ma 0), .int o])).length) Slot.unset).toArray = ls at hl ⊢
  have hl : lv_has ls 2 [(0, .ref (ma 0)), (1, .int o)] := hl
  refine lv_aload_n hx hb dX7_noOrder_0 rfl (lv_at hl 0 rfl) ?_
  refine lv_iload_n hx hb dX7_noOrder_1 rfl (lv_at hl 1 rfl) ?_
  refine lv_iconst (v := 0) hx hb dX7_noOrder_2 (by decide) ?_
  refine lv_aload_n hx hb dX7_noOrder_3 rfl (lv_at hl 0 rfl) ?_
  refine m_get (v := .int (σ 2 0)) hx hb hts hinX7 hown hK hM 2 (by decide) lk98 rfl dX7_noOrder_4 ?_
  refine lv_iconst (v := 1) hx hb dX7_noOrder_7 (by decide) ?_
  refine lv_isub hx hb dX7_noOrder_8 ?_
  refine sc_ro (n := 3) (As := [.int o, .int 0, .int ((σ 2 0) - 1)]) (rest := [.ref (ma 0)]) (v := [.int (if isP o 0 ((σ 2 0) - 1) then 1 else 0)]) ⟨hx, hb, hml, hown, hts⟩ (k_isIn la o 0 ((σ 2 0) - 1)) gX7_noOrder_X7_isIn rfl rfl rfl (by decide +kernel) ⟨Nat.le_of_ble_eq_true rfl, Nat.le_of_ble_eq_true rfl⟩ rfl hl.1 rfl (Nat.le_of_ble_eq_true rfl) dX7_noOrder_9 ⟨Nat.zero_le _, Nat.zero_le _⟩ rfl ?_
  refine br_if_eq (c9 := isP o 0 ((σ 2 0) - 1)) (tgt := 19) hx hb dX7_noOrder_12 (by decide) (fun c_1 => ?_) (fun c_1 => ?_)
  · refine lv_iconst (v := 1) hx hb dX7_noOrder_19 (by decide) ?_
    refine m_put hx hb hA hts hinX7 hown hK hM 0 (by decide) lk84 dX7_noOrder_20 (fun H locs hM => ?_)
    refine lv_aload_n hx hb dX7_noOrder_23 rfl (lv_at hl 0 rfl) ?_
    refine m_get (v := .int 1) hx hb hts hinX7 hown hK hM 0 (by decide) lk84 rfl dX7_noOrder_24 ?_
    refine lv_if_eq (tgt := 34) hx hb dX7_noOrder_27 (by decide) (fun c_2 => ?_) (fun c_2 => ?_)
    · exact absurd c_2 (by decide)
    · refine lv_iconst (v := 1) hx hb dX7_noOrder_30 (by decide) ?_
      refine lv_goto (tgt := 35) hx hb dX7_noOrder_31 (by decide) ?_
      exact W.zret (v := 1) hx hb hr rfl (fun t ht hW => ⟨congrArg (fun z => Outcome.returned (some (Value.int z))) (by first | rfl | (simp [-Int32.not_lt, -Int32.not_le, okL, okV, okO, okR, okD, isP, shP, c_1, c_2]; done) | (simp_all [-Int32.not_lt, -Int32.not_le, okL, okV, okO, okR, okD, isP, shP]; done)), by rw [ht]; exact (hM.cg (by first | rfl | (simp [-Int32.not_lt, -Int32.not_le, okL, okV, okO, okR, okD, isP, shP, c_1, c_2, up_id]; done) | (simp_all [-Int32.not_lt, -Int32.not_le, okL, okV, okO, okR, okD, isP, shP, up_id]; done))).1, by rw [ht]; exact hM.2.1, fun q hq => by rw [ht]; exact hM.2.2.1 q hq⟩) hM.2.2.2 dX7_noOrder_35
  · refine lv_iconst (v := 0) hx hb dX7_noOrder_15 (by decide) ?_
    refine lv_goto (tgt := 20) hx hb dX7_noOrder_16 (by decide) ?_
    refine m_put hx hb hA hts hinX7 hown hK hM 0 (by decide) lk84 dX7_noOrder_20 (fun H locs hM => ?_)
    refine lv_aload_n hx hb dX7_noOrder_23 rfl (lv_at hl 0 rfl) ?_
    refine m_get (v := .int 0) hx hb hts hinX7 hown hK hM 0 (by decide) lk84 rfl dX7_noOrder_24 ?_
    refine lv_if_eq (tgt := 34) hx hb dX7_noOrder_27 (by decide) (fun c_3 => ?_) (fun c_3 => ?_)
    · refine lv_iconst (v := 0) hx hb dX7_noOrder_34 (by decide) ?_
      exact W.zret (v := 0) hx hb hr rfl (fun t ht hW => ⟨congrArg (fun z => Outcome.returned (some (Value.int z))) (by first | rfl | (simp [-Int32.not_lt, -Int32.not_le, okL, okV, okO, okR, okD, isP, shP, c_1, c_3]; done) | (simp_all [-Int32.not_lt, -Int32.not_le, okL, okV, okO, okR, okD, isP, shP]; done)), by rw [ht]; exact (hM.cg (by first | rfl | (simp [-Int32.not_lt, -Int32.not_le, okL, okV, okO, okR, okD, isP, shP, c_1, c_3, up_id]; done) | (simp_all [-Int32.not_lt, -Int32.not_le, okL, okV, okO, okR, okD, isP, shP, up_id]; done))).1, by rw [ht]; exact hM.2.1, fun q hq => by rw [ht]; exact hM.2.2.1 q hq⟩) hM.2.2.2 dX7_noOrder_35
    · exact absurd c_3 (by decide)
set_option maxHeartbeats 4000000 in
set_option maxRecDepth 100000 in
theorem k_noDye (la : Launch) (g : EG) (lo : Nat) (ma : Nat → Nat) (hA : MA lo ma) (σ : Sg) (u : Nat → Int64) (d : Int32) : Met la yX7_noDye wsX7_noDye ({ frames := 1, cells := 0, slots := 0, locals := 22 } : Room) (va_Pc [.ref (ma 0), .int d] (fun U => MR g ma σ u U.heap ∧ KK g U)) (QM (.returned (some (.int (if ¬ okD d then 1 else 0)))) (fun H1 => MR g ma (up σ 0 0 (if okD d then 0 else 1)) u H1) (mown ma)) 0 0 (fun q => lo ≤ q) := by
  refine Met.ofW (cc := cX7_noDye) (maxL := 2) (ret := (some .boolean)) (by decide) rfl ?_
  intro p e s m args below meth c s₁ B hml hv
  obtain ⟨rfl, hR0, hK⟩ := hv
  have hx := B.exec
  have hb := B.bytes
  have hr := B.returns
  have hts := atoms_spec (ws := wsX7_noDye) B.pre
  have hown : s.vm.findClass RX7 = some m.cls := findClass_of_methodNamed B.named
  have hlocks := B.notSynchronized
  have hM : MS g lo ma σ u s.heap s.heap [] := MS.start hR0
  have hinX7 : ∀ w ∈ wsX70, w ∈ wsX7_noDye := by decide +kernel
  have lk84 := hts (.fieldLink RX7 84 "DyehouseLedgerModel" "thrown" "I") (by decide +kernel)
  have hl := lv_entry ([.ref (ma 0), .int d]) (n := 2) (Nat.le_of_ble_eq_true rfl)
  rw [lg_entry_eq]
  generalize (lg_sl ([.ref (ma 0), .int d]) ++ List.replicate (2 - (lg_sl ([.ref (ma 0), .int d])).length) Slot.unset).toArray = ls at hl ⊢
  have hl : lv_has ls 2 [(0, .ref (ma 0)), (1, .int d)] := hl
  refine lv_aload_n hx hb dX7_noDye_0 rfl (lv_at hl 0 rfl) ?_
  refine lv_iload_n hx hb dX7_noDye_1 rfl (lv_at hl 1 rfl) ?_
  refine lv_iconst (v := 0) hx hb dX7_noDye_2 (by decide) ?_
  refine lv_iconst (v := 2) hx hb dX7_noDye_3 (by decide) ?_
  refine sc_ro (n := 3) (As := [.int d, .int 0, .int 2]) (rest := [.ref (ma 0)]) (v := [.int (if isP d 0 2 then 1 else 0)]) ⟨hx, hb, hml, hown, hts⟩ (k_isIn la d 0 2) gX7_noDye_X7_isIn rfl rfl rfl (by decide +kernel) ⟨Nat.le_of_ble_eq_true rfl, Nat.le_of_ble_eq_true rfl⟩ rfl hl.1 rfl (Nat.le_of_ble_eq_true rfl) dX7_noDye_4 ⟨Nat.zero_le _, Nat.zero_le _⟩ rfl ?_
  refine br_if_eq (c9 := isP d 0 2) (tgt := 14) hx hb dX7_noDye_7 (by decide) (fun c_1 => ?_) (fun c_1 => ?_)
  · refine lv_iconst (v := 1) hx hb dX7_noDye_14 (by decide) ?_
    refine m_put hx hb hA hts hinX7 hown hK hM 0 (by decide) lk84 dX7_noDye_15 (fun H locs hM => ?_)
    refine lv_aload_n hx hb dX7_noDye_18 rfl (lv_at hl 0 rfl) ?_
    refine m_get (v := .int 1) hx hb hts hinX7 hown hK hM 0 (by decide) lk84 rfl dX7_noDye_19 ?_
    refine lv_if_eq (tgt := 29) hx hb dX7_noDye_22 (by decide) (fun c_2 => ?_) (fun c_2 => ?_)
    · exact absurd c_2 (by decide)
    · refine lv_iconst (v := 1) hx hb dX7_noDye_25 (by decide) ?_
      refine lv_goto (tgt := 30) hx hb dX7_noDye_26 (by decide) ?_
      exact W.zret (v := 1) hx hb hr rfl (fun t ht hW => ⟨congrArg (fun z => Outcome.returned (some (Value.int z))) (by first | rfl | (simp [-Int32.not_lt, -Int32.not_le, okL, okV, okO, okR, okD, isP, shP, c_1, c_2]; done) | (simp_all [-Int32.not_lt, -Int32.not_le, okL, okV, okO, okR, okD, isP, shP]; done)), by rw [ht]; exact (hM.cg (by first | rfl | (simp [-Int32.not_lt, -Int32.not_le, okL, okV, okO, okR, okD, isP, shP, c_1, c_2, up_id]; done) | (simp_all [-Int32.not_lt, -Int32.not_le, okL, okV, okO, okR, okD, isP, shP, up_id]; done))).1, by rw [ht]; exact hM.2.1, fun q hq => by rw [ht]; exact hM.2.2.1 q hq⟩) hM.2.2.2 dX7_noDye_30
  · have kd := (okD_in d).mp c_1
    refine lv_iconst (v := 0) hx hb dX7_noDye_10 (by decide) ?_
    refine lv_goto (tgt := 15) hx hb dX7_noDye_11 (by decide) ?_
    refine m_put hx hb hA hts hinX7 hown hK hM 0 (by decide) lk84 dX7_noDye_15 (fun H locs hM => ?_)
    refine lv_aload_n hx hb dX7_noDye_18 rfl (lv_at hl 0 rfl) ?_
    refine m_get (v := .int 0) hx hb hts hinX7 hown hK hM 0 (by decide) lk84 rfl dX7_noDye_19 ?_
    refine lv_if_eq (tgt := 29) hx hb dX7_noDye_22 (by decide) (fun c_3 => ?_) (fun c_3 => ?_)
    · refine lv_iconst (v := 0) hx hb dX7_noDye_29 (by decide) ?_
      exact W.zret (v := 0) hx hb hr rfl (fun t ht hW => ⟨congrArg (fun z => Outcome.returned (some (Value.int z))) (by first | rfl | (simp [-Int32.not_lt, -Int32.not_le, okL, okV, okO, okR, okD, isP, shP, c_1, c_3]; done) | (simp_all [-Int32.not_lt, -Int32.not_le, okL, okV, okO, okR, okD, isP, shP]; done)), by rw [ht]; exact (hM.cg (by first | rfl | (simp [-Int32.not_lt, -Int32.not_le, okL, okV, okO, okR, okD, isP, shP, c_1, c_3, up_id]; done) | (simp_all [-Int32.not_lt, -Int32.not_le, okL, okV, okO, okR, okD, isP, shP, up_id]; done))).1, by rw [ht]; exact hM.2.1, fun q hq => by rw [ht]; exact hM.2.2.1 q hq⟩) hM.2.2.2 dX7_noDye_30
    · exact absurd c_3 (by decide)
set_option maxHeartbeats 4000000 in
set_option maxRecDepth 100000 in
theorem k_needed (la : Launch) (g : EG) (ma : Nat → Nat) (σ : Sg) (u : Nat → Int64) (l d : Int32) (hI : INV σ) (kl : vp_in l (nL σ)) (kd : vp_in d 3) : Met la yX7_needed wsX7_needed ({ frames := 0, cells := 0, slots := 0, locals := 0 } : Room) (va_Pc [.ref (ma 0), .int l, .int d] (fun U => MR g ma σ u U.heap ∧ KK g U)) (QR (.returned (some (.int (f_needed σ l d))))) 0 0 (fun _ => False) := by
  refine Met.ofW (cc := cX7_needed) (maxL := 3) (ret := (some .int)) (by decide) rfl ?_
  intro p e s m args below meth c s₁ B hml hv
  obtain ⟨rfl, hR0, hK⟩ := hv
  have hx := B.exec
  have hb := B.bytes
  have hr := B.returns
  have hts := atoms_spec (ws := wsX7_needed) B.pre
  have hown : s.vm.findClass RX7 = some m.cls := findClass_of_methodNamed B.named
  have hlocks := B.notSynchronized
  have hM : MS g 0 ma σ u s.heap s.heap [] := MS.start hR0
  have hinX7 : ∀ w ∈ wsX70, w ∈ wsX7_needed := by decide +kernel
  have lk13 := hts (.fieldLink RX7 13 "DyehouseLedgerModel" "grams" "[I") (by decide +kernel)
  have lk26 := hts (.fieldLink RX7 26 "DyehouseLedgerModel" "recipe" "[I") (by decide +kernel)
  have lk38 := hts (.fieldLink RX7 38 "DyehouseLedgerModel" "order" "[I") (by decide +kernel)
  have lk41 := hts (.fieldLink RX7 41 "DyehouseLedgerModel" "weight" "[I") (by decide +kernel)
  have hl := lv_entry ([.ref (ma 0), .int l, .int d]) (n := 3) (Nat.le_of_ble_eq_true rfl)
  rw [lg_entry_eq]
  generalize (lg_sl ([.ref (ma 0), .int l, .int d]) ++ List.replicate (3 - (lg_sl ([.ref (ma 0), .int l, .int d])).length) Slot.unset).toArray = ls at hl ⊢
  have hl : lv_has ls 3 [(0, .ref (ma 0)), (1, .int l), (2, .int d)] := hl
  refine lv_aload_n hx hb dX7_needed_0 rfl (lv_at hl 0 rfl) ?_
  refine m_get (v := .ref (ma 6)) hx hb hts hinX7 hown hK hM 6 (by decide) lk13 rfl dX7_needed_1 ?_
  refine lv_iconst (v := 3) hx hb dX7_needed_4 (by decide) ?_
  refine lv_aload_n hx hb dX7_needed_5 rfl (lv_at hl 0 rfl) ?_
  refine m_get (v := .ref (ma 10)) hx hb hts hinX7 hown hK hM 10 (by decide) lk26 rfl dX7_needed_6 ?_
  refine lv_aload_n hx hb dX7_needed_9 rfl (lv_at hl 0 rfl) ?_
  refine m_get (v := .ref (ma 14)) hx hb hts hinX7 hown hK hM 14 (by decide) lk38 rfl dX7_needed_10 ?_
  refine lv_iload_n hx hb dX7_needed_13 rfl (lv_at hl 1 rfl) ?_
  refine m_iald (x := (σ 14 (ti l))) hx hb hK hM 14 (by decide) rfl (i := l) (n := 24) (lot24 hI kl) rfl dX7_needed_14 ?_
  refine m_iald (x := (σ 10 (ti (σ 14 (ti l))))) hx hb hK hM 10 (by decide) rfl (i := (σ 14 (ti l))) (n := 6) (od6 hI (ordO hI kl)) rfl dX7_needed_15 ?_
  refine lv_imul hx hb dX7_needed_16 ?_
  refine lv_iload_n hx hb dX7_needed_17 rfl (lv_at hl 2 rfl) ?_
  refine lv_iadd hx hb dX7_needed_18 ?_
  refine m_iald (x := (σ 6 (ti ((3 * (σ 10 (ti (σ 14 (ti l))))) + d)))) hx hb hK hM 6 (by decide) rfl (i := ((3 * (σ 10 (ti (σ 14 (ti l))))) + d)) (n := 24) (vin_3d (rec8 hI (recR hI (ordO hI kl))) (by decide) (by decide) kd).1 rfl dX7_needed_19 ?_
  refine lv_aload_n hx hb dX7_needed_20 rfl (lv_at hl 0 rfl) ?_
  refine m_get (v := .ref (ma 15)) hx hb hts hinX7 hown hK hM 15 (by decide) lk41 rfl dX7_needed_21 ?_
  refine lv_iload_n hx hb dX7_needed_24 rfl (lv_at hl 1 rfl) ?_
  refine m_iald (x := (σ 15 (ti l))) hx hb hK hM 15 (by decide) rfl (i := l) (n := 24) (lot24 hI kl) rfl dX7_needed_25 ?_
  refine lv_imul hx hb dX7_needed_26 ?_
  refine lv_bipush (v := 99) hx hb dX7_needed_27 (by decide) ?_
  refine lv_iadd hx hb dX7_needed_29 ?_
  refine lv_bipush (v := 100) hx hb dX7_needed_30 (by decide) ?_
  refine lv_idiv hx hb dX7_needed_32 (by decide) ?_
  exact W.iret (v := ((((σ 6 (ti ((3 * (σ 10 (ti (σ 14 (ti l))))) + d))) * (σ 15 (ti l))) + 99) / 100)) hx hb hr (fun t ht hW => ⟨congrArg (fun z => Outcome.returned (some (Value.int z))) (by first | rfl | (simp [-Int32.not_lt, -Int32.not_le, okL, okV, okO, okR, okD, isP, shP]; done) | (simp_all [-Int32.not_lt, -Int32.not_le, okL, okV, okO, okR, okD, isP, shP]; done)), ht⟩) (fun _ h => nomatch h) dX7_needed_33
set_option maxHeartbeats 4000000 in
set_option maxRecDepth 100000 in
theorem k_hours (la : Launch) (g : EG) (ma : Nat → Nat) (σ : Sg) (u : Nat → Int64) (l : Int32) (kl : vp_in l 24) : Met la yX7_hours wsX7_hours ({ frames := 0, cells := 0, slots := 0, locals := 0 } : Room) (va_Pc [.ref (ma 0), .int l] (fun U => MR g ma σ u U.heap ∧ KK g U)) (QR (.returned (some (.int (f_hours σ l))))) 0 0 (fun _ => False) := by
  refine Met.ofW (cc := cX7_hours) (maxL := 2) (ret := (some .int)) (by decide) rfl ?_
  intro p e s m args below meth c s₁ B hml hv
  obtain ⟨rfl, hR0, hK⟩ := hv
  have hx := B.exec
  have hb := B.bytes
  have hr := B.returns
  have hts := atoms_spec (ws := wsX7_hours) B.pre
  have hown : s.vm.findClass RX7 = some m.cls := findClass_of_methodNamed B.named
  have hlocks := B.notSynchronized
  have hM : MS g 0 ma σ u s.heap s.heap [] := MS.start hR0
  have hinX7 : ∀ w ∈ wsX70, w ∈ wsX7_hours := by decide +kernel
  have lk41 := hts (.fieldLink RX7 41 "DyehouseLedgerModel" "weight" "[I") (by decide +kernel)
  have hl := lv_entry ([.ref (ma 0), .int l]) (n := 2) (Nat.le_of_ble_eq_true rfl)
  rw [lg_entry_eq]
  generalize (lg_sl ([.ref (ma 0), .int l]) ++ List.replicate (2 - (lg_sl ([.ref (ma 0), .int l])).length) Slot.unset).toArray = ls at hl ⊢
  have hl : lv_has ls 2 [(0, .ref (ma 0)), (1, .int l)] := hl
  refine lv_iconst (v := 4) hx hb dX7_hours_0 (by decide) ?_
  refine lv_aload_n hx hb dX7_hours_1 rfl (lv_at hl 0 rfl) ?_
  refine m_get (v := .ref (ma 15)) hx hb hts hinX7 hown hK hM 15 (by decide) lk41 rfl dX7_hours_2 ?_
  refine lv_iload_n hx hb dX7_hours_5 rfl (lv_at hl 1 rfl) ?_
  refine m_iald (x := (σ 15 (ti l))) hx hb hK hM 15 (by decide) rfl (i := l) (n := 24) kl rfl dX7_hours_6 ?_
  refine lv_bipush (v := 49) hx hb dX7_hours_7 (by decide) ?_
  refine lv_iadd hx hb dX7_hours_9 ?_
  refine lv_bipush (v := 50) hx hb dX7_hours_10 (by decide) ?_
  refine lv_idiv hx hb dX7_hours_12 (by decide) ?_
  refine lv_iadd hx hb dX7_hours_13 ?_
  exact W.iret (v := (4 + (((σ 15 (ti l)) + 49) / 50))) hx hb hr (fun t ht hW => ⟨congrArg (fun z => Outcome.returned (some (Value.int z))) (by first | rfl | (simp [-Int32.not_lt, -Int32.not_le, okL, okV, okO, okR, okD, isP, shP]; done) | (simp_all [-Int32.not_lt, -Int32.not_le, okL, okV, okO, okR, okD, isP, shP]; done)), ht⟩) (fun _ h => nomatch h) dX7_hours_14
set_option maxHeartbeats 4000000 in
set_option maxRecDepth 100000 in
theorem k_lightOf (la : Launch) (g : EG) (ma : Nat → Nat) (σ : Sg) (u : Nat → Int64) (l : Int32) (hI : INV σ) (kl : vp_in l (nL σ)) : Met la yX7_lightOf wsX7_lightOf ({ frames := 0, cells := 0, slots := 0, locals := 0 } : Room) (va_Pc [.ref (ma 0), .int l] (fun U => MR g ma σ u U.heap ∧ KK g U)) (QR (.returned (some (.int (f_lightOf σ l))))) 0 0 (fun _ => False) := by
  refine Met.ofW (cc := cX7_lightOf) (maxL := 2) (ret := (some .int)) (by decide) rfl ?_
  intro p e s m args below meth c s₁ B hml hv
  obtain ⟨rfl, hR0, hK⟩ := hv
  have hx := B.exec
  have hb := B.bytes
  have hr := B.returns
  have hts := atoms_spec (ws := wsX7_lightOf) B.pre
  have hown : s.vm.findClass RX7 = some m.cls := findClass_of_methodNamed B.named
  have hlocks := B.notSynchronized
  have hM : MS g 0 ma σ u s.heap s.heap [] := MS.start hR0
  have hinX7 : ∀ w ∈ wsX70, w ∈ wsX7_lightOf := by decide +kernel
  have lk26 := hts (.fieldLink RX7 26 "DyehouseLedgerModel" "recipe" "[I") (by decide +kernel)
  have lk38 := hts (.fieldLink RX7 38 "DyehouseLedgerModel" "order" "[I") (by decide +kernel)
  have lk7 := hts (.fieldLink RX7 7 "DyehouseLedgerModel" "shade" "[I") (by decide +kernel)
  have hl := lv_entry ([.ref (ma 0), .int l]) (n := 2) (Nat.le_of_ble_eq_true rfl)
  rw [lg_entry_eq]
  generalize (lg_sl ([.ref (ma 0), .int l]) ++ List.replicate (2 - (lg_sl ([.ref (ma 0), .int l])).length) Slot.unset).toArray = ls at hl ⊢
  have hl : lv_has ls 2 [(0, .ref (ma 0)), (1, .int l)] := hl
  refine lv_aload_n hx hb dX7_lightOf_0 rfl (lv_at hl 0 rfl) ?_
  refine m_get (v := .ref (ma 5)) hx hb hts hinX7 hown hK hM 5 (by decide) lk7 rfl dX7_lightOf_1 ?_
  refine lv_iconst (v := 3) hx hb dX7_lightOf_4 (by decide) ?_
  refine lv_aload_n hx hb dX7_lightOf_5 rfl (lv_at hl 0 rfl) ?_
  refine m_get (v := .ref (ma 10)) hx hb hts hinX7 hown hK hM 10 (by decide) lk26 rfl dX7_lightOf_6 ?_
  refine lv_aload_n hx hb dX7_lightOf_9 rfl (lv_at hl 0 rfl) ?_
  refine m_get (v := .ref (ma 14)) hx hb hts hinX7 hown hK hM 14 (by decide) lk38 rfl dX7_lightOf_10 ?_
  refine lv_iload_n hx hb dX7_lightOf_13 rfl (lv_at hl 1 rfl) ?_
  refine m_iald (x := (σ 14 (ti l))) hx hb hK hM 14 (by decide) rfl (i := l) (n := 24) (lot24 hI kl) rfl dX7_lightOf_14 ?_
  refine m_iald (x := (σ 10 (ti (σ 14 (ti l))))) hx hb hK hM 10 (by decide) rfl (i := (σ 14 (ti l))) (n := 6) (od6 hI (ordO hI kl)) rfl dX7_lightOf_15 ?_
  refine lv_imul hx hb dX7_lightOf_16 ?_
  refine m_iald (x := (σ 5 (ti (3 * (σ 10 (ti (σ 14 (ti l)))))))) hx hb hK hM 5 (by decide) rfl (i := (3 * (σ 10 (ti (σ 14 (ti l)))))) (n := 24) (vin_30 (rec8 hI (recR hI (ordO hI kl))) (by decide) (by decide)).1 rfl dX7_lightOf_17 ?_
  exact W.iret (v := (σ 5 (ti (3 * (σ 10 (ti (σ 14 (ti l)))))))) hx hb hr (fun t ht hW => ⟨congrArg (fun z => Outcome.returned (some (Value.int z))) (by first | rfl | (simp [-Int32.not_lt, -Int32.not_le, okL, okV, okO, okR, okD, isP, shP]; done) | (simp_all [-Int32.not_lt, -Int32.not_le, okL, okV, okO, okR, okD, isP, shP]; done)), ht⟩) (fun _ h => nomatch h) dX7_lightOf_18
set_option maxHeartbeats 4000000 in
set_option maxRecDepth 100000 in
theorem k_why (la : Launch) (g : EG) (ma : Nat → Nat) (σ : Sg) (u : Nat → Int64) (l v : Int32) (hI : INV σ) (kl : vp_in l (nL σ)) (kv : vp_in v (nV σ)) : Met la yX7_why wsX7_why ({ frames := 1, cells := 0, slots := 0, locals := 22 } : Room) (va_Pc [.ref (ma 0), .int l, .int v] (fun U => MR g ma σ u U.heap ∧ KK g U)) (QR (.returned (some (.int (f_why σ l v))))) 0 0 (fun _ => False) := by
  refine Met.ofW (cc := cX7_why) (maxL := 4) (ret := (some .char)) (by decide) rfl ?_
  intro p e s m args below meth c s₁ B hml hv
  obtain ⟨rfl, hR0, hK⟩ := hv
  have hx := B.exec
  have hb := B.bytes
  have hr := B.returns
  have hts := atoms_spec (ws := wsX7_why) B.pre
  have hown : s.vm.findClass RX7 = some m.cls := findClass_of_methodNamed B.named
  have hlocks := B.notSynchronized
  have hM : MS g 0 ma σ u s.heap s.heap [] := MS.start hR0
  have hinX7 : ∀ w ∈ wsX70, w ∈ wsX7_why := by decide +kernel
  have lk16 := hts (.fieldLink RX7 16 "DyehouseLedgerModel" "stock" "[I") (by decide +kernel)
  have lk23 := hts (.fieldLink RX7 23 "DyehouseLedgerModel" "customer" "[I") (by decide +kernel)
  have lk38 := hts (.fieldLink RX7 38 "DyehouseLedgerModel" "order" "[I") (by decide +kernel)
  have lk41 := hts (.fieldLink RX7 41 "DyehouseLedgerModel" "weight" "[I") (by decide +kernel)
  have lk59 := hts (.fieldLink RX7 59 "DyehouseLedgerModel" "state" "[C") (by decide +kernel)
  have lk63 := hts (.fieldLink RX7 63 "DyehouseLedgerModel" "room" "[I") (by decide +kernel)
  have lk66 := hts (.fieldLink RX7 66 "DyehouseLedgerModel" "light" "[I") (by decide +kernel)
  have lk69 := hts (.fieldLink RX7 69 "DyehouseLedgerModel" "barred" "[I") (by decide +kernel)
  have hl := lv_entry ([.ref (ma 0), .int l, .int v]) (n := 4) (Nat.le_of_ble_eq_true rfl)
  rw [lg_entry_eq]
  generalize (lg_sl ([.ref (ma 0), .int l, .int v]) ++ List.replicate (4 - (lg_sl ([.ref (ma 0), .int l, .int v])).length) Slot.unset).toArray = ls at hl ⊢
  have hl : lv_has ls 4 [(0, .ref (ma 0)), (1, .int l), (2, .int v)] := hl
  refine lv_aload_n hx hb dX7_why_0 rfl (lv_at hl 0 rfl) ?_
  refine m_get (v := .ref (ma 21)) hx hb hts hinX7 hown hK hM 21 (by decide) lk59 rfl dX7_why_1 ?_
  refine lv_iload_n hx hb dX7_why_4 rfl (lv_at hl 1 rfl) ?_
  refine m_cald (x := (σ 21 (ti l))) hx hb hK hM (i := l) (lot24 hI kl) rfl dX7_why_5 ?_
  refine lv_bipush (v := 119) hx hb dX7_why_6 (by decide) ?_
  refine lv_icmp_eq (tgt := 14) hx hb dX7_why_8 (by decide) (fun c_1 => ?_) (fun c_1 => ?_)
  · refine lv_aload_n hx hb dX7_why_14 rfl (lv_at hl 0 rfl) ?_
    refine m_get (v := .ref (ma 15)) hx hb hts hinX7 hown hK hM 15 (by decide) lk41 rfl dX7_why_15 ?_
    refine lv_iload_n hx hb dX7_why_18 rfl (lv_at hl 1 rfl) ?_
    refine m_iald (x := (σ 15 (ti l))) hx hb hK hM 15 (by decide) rfl (i := l) (n := 24) (lot24 hI kl) rfl dX7_why_19 ?_
    refine lv_aload_n hx hb dX7_why_20 rfl (lv_at hl 0 rfl) ?_
    refine m_get (v := .ref (ma 22)) hx hb hts hinX7 hown hK hM 22 (by decide) lk63 rfl dX7_why_21 ?_
    refine lv_iload_n hx hb dX7_why_24 rfl (lv_at hl 2 rfl) ?_
    refine m_iald (x := (σ 22 (ti v))) hx hb hK hM 22 (by decide) rfl (i := v) (n := 4) (vat4 hI kv) rfl dX7_why_25 ?_
    refine lv_icmp_le (tgt := 32) hx hb dX7_why_26 (by decide) (fun c_2 => ?_) (fun c_2 => ?_)
    · replace c_2 := Int32.not_lt.mpr c_2
      refine lv_aload_n hx hb dX7_why_32 rfl (lv_at hl 0 rfl) ?_
      refine m_get (v := .ref (ma 23)) hx hb hts hinX7 hown hK hM 23 (by decide) lk66 rfl dX7_why_33 ?_
      refine lv_iload_n hx hb dX7_why_36 rfl (lv_at hl 2 rfl) ?_
      refine m_iald (x := (σ 23 (ti v))) hx hb hK hM 23 (by decide) rfl (i := v) (n := 4) (vat4 hI kv) rfl dX7_why_37 ?_
      refine lv_iconst (v := (-1)) hx hb dX7_why_38 (by decide) ?_
      refine lv_icmp_eq (tgt := 59) hx hb dX7_why_39 (by decide) (fun c_3 => ?_) (fun c_3 => ?_)
      · refine lv_aload_n hx hb dX7_why_59 rfl (lv_at hl 0 rfl) ?_
        refine m_get (v := .ref (ma 24)) hx hb hts hinX7 hown hK hM 24 (by decide) lk69 rfl dX7_why_60 ?_
        refine lv_iload_n hx hb dX7_why_63 rfl (lv_at hl 2 rfl) ?_
        refine m_iald (x := (σ 24 (ti v))) hx hb hK hM 24 (by decide) rfl (i := v) (n := 4) (vat4 hI kv) rfl dX7_why_64 ?_
        refine lv_iconst (v := (-1)) hx hb dX7_why_65 (by decide) ?_
        refine lv_icmp_eq (tgt := 92) hx hb dX7_why_66 (by decide) (fun c_4 => ?_) (fun c_4 => ?_)
        · refine lv_iconst (v := 0) hx hb dX7_why_92 (by decide) ?_
          refine lv_istore_n (lv' := [(3, .int 0), (0, .ref (ma 0)), (1, .int l), (2, .int v)]) hx hb dX7_why_93 rfl hl (by decide) rfl (fun ls hl => ?_)
          refine lv_iload_n hx hb dX7_why_94 rfl (lv_at hl 0 rfl) ?_
          refine lv_iconst (v := 3) hx hb dX7_why_95 (by decide) ?_
          refine lv_icmp_ge (tgt := 123) hx hb dX7_why_96 (by decide) (fun c_5 => ?_) (fun c_5 => ?_)
          · exact absurd c_5 (by decide)
          · replace c_5 := Int32.not_le.mp c_5
            refine lv_aload_n hx hb dX7_why_99 rfl (lv_at hl 1 rfl) ?_
            refine m_get (v := .ref (ma 7)) hx hb hts hinX7 hown hK hM 7 (by decide) lk16 rfl dX7_why_100 ?_
            refine lv_iload_n hx hb dX7_why_103 rfl (lv_at hl 0 rfl) ?_
            refine m_iald (x := (σ 7 0)) hx hb hK hM 7 (by decide) rfl (i := 0) (n := 3) (vin_dec (by decide +kernel)) (congrArg (σ 7) ti_0) dX7_why_104 ?_
            refine lv_aload_n hx hb dX7_why_105 rfl (lv_at hl 1 rfl) ?_
            refine lv_iload_n hx hb dX7_why_106 rfl (lv_at hl 2 rfl) ?_
            refine lv_iload_n hx hb dX7_why_107 rfl (lv_at hl 0 rfl) ?_
            refine mc_ro (n := 2) (As := [.int l, .int 0]) (rest := [.int (σ 7 0)]) (v := [.int (f_needed σ l 0)]) ⟨hx, hb, hml, hown, hts⟩ hK hM (k_needed la g ma σ u l 0 hI kl (vin_dec (by decide +kernel))) gX7_why_X7_needed rfl rfl rfl (by decide +kernel) ⟨Nat.le_of_ble_eq_true rfl, Nat.le_of_ble_eq_true rfl⟩ rfl hl.1 rfl (Nat.le_of_ble_eq_true rfl) dX7_why_108 ⟨Nat.zero_le _, Nat.zero_le _⟩ rfl ?_
            refine lv_icmp_ge (tgt := 117) hx hb dX7_why_111 (by decide) (fun c_6 => ?_) (fun c_6 => ?_)
            · replace c_6 := Int32.not_lt.mpr c_6
              refine lv_iinc (v := 1) (lv' := [(3, .int 1), (0, .ref (ma 0)), (1, .int l), (2, .int v)]) hx hb dX7_why_117 hl (k := 0) rfl (by decide) (by decide) rfl (fun ls hl => ?_)
              refine lv_goto (tgt := 94) hx hb dX7_why_120 (by decide) ?_
              refine lv_iload_n hx hb dX7_why_94 rfl (lv_at hl 0 rfl) ?_
              refine lv_iconst (v := 3) hx hb dX7_why_95 (by decide) ?_
              refine lv_icmp_ge (tgt := 123) hx hb dX7_why_96 (by decide) (fun c_7 => ?_) (fun c_7 => ?_)
              · exact absurd c_7 (by decide)
              · replace c_7 := Int32.not_le.mp c_7
                refine lv_aload_n hx hb dX7_why_99 rfl (lv_at hl 1 rfl) ?_
                refine m_get (v := .ref (ma 7)) hx hb hts hinX7 hown hK hM 7 (by decide) lk16 rfl dX7_why_100 ?_
                refine lv_iload_n hx hb dX7_why_103 rfl (lv_at hl 0 rfl) ?_
                refine m_iald (x := (σ 7 1)) hx hb hK hM 7 (by decide) rfl (i := 1) (n := 3) (vin_dec (by decide +kernel)) (congrArg (σ 7) ti_1) dX7_why_104 ?_
                refine lv_aload_n hx hb dX7_why_105 rfl (lv_at hl 1 rfl) ?_
                refine lv_iload_n hx hb dX7_why_106 rfl (lv_at hl 2 rfl) ?_
                refine lv_iload_n hx hb dX7_why_107 rfl (lv_at hl 0 rfl) ?_
                refine mc_ro (n := 2) (As := [.int l, .int 1]) (rest := [.int (σ 7 1)]) (v := [.int (f_needed σ l 1)]) ⟨hx, hb, hml, hown, hts⟩ hK hM (k_needed la g ma σ u l 1 hI kl (vin_dec (by decide +kernel))) gX7_why_X7_needed rfl rfl rfl (by decide +kernel) ⟨Nat.le_of_ble_eq_true rfl, Nat.le_of_ble_eq_true rfl⟩ rfl hl.1 rfl (Nat.le_of_ble_eq_true rfl) dX7_why_108 ⟨Nat.zero_le _, Nat.zero_le _⟩ rfl ?_
                refine lv_icmp_ge (tgt := 117) hx hb dX7_why_111 (by decide) (fun c_8 => ?_) (fun c_8 => ?_)
                · replace c_8 := Int32.not_lt.mpr c_8
                  refine lv_iinc (v := 2) (lv' := [(3, .int 2), (0, .ref (ma 0)), (1, .int l), (2, .int v)]) hx hb dX7_why_117 hl (k := 0) rfl (by decide) (by decide) rfl (fun ls hl => ?_)
                  refine lv_goto (tgt := 94) hx hb dX7_why_120 (by decide) ?_
                  refine lv_iload_n hx hb dX7_why_94 rfl (lv_at hl 0 rfl) ?_
                  refine lv_iconst (v := 3) hx hb dX7_why_95 (by decide) ?_
                  refine lv_icmp_ge (tgt := 123) hx hb dX7_why_96 (by decide) (fun c_9 => ?_) (fun c_9 => ?_)
                  · exact absurd c_9 (by decide)
                  · replace c_9 := Int32.not_le.mp c_9
                    refine lv_aload_n hx hb dX7_why_99 rfl (lv_at hl 1 rfl) ?_
                    refine m_get (v := .ref (ma 7)) hx hb hts hinX7 hown hK hM 7 (by decide) lk16 rfl dX7_why_100 ?_
                    refine lv_iload_n hx hb dX7_why_103 rfl (lv_at hl 0 rfl) ?_
                    refine m_iald (x := (σ 7 2)) hx hb hK hM 7 (by decide) rfl (i := 2) (n := 3) (vin_dec (by decide +kernel)) (congrArg (σ 7) ti_2) dX7_why_104 ?_
                    refine lv_aload_n hx hb dX7_why_105 rfl (lv_at hl 1 rfl) ?_
                    refine lv_iload_n hx hb dX7_why_106 rfl (lv_at hl 2 rfl) ?_
                    refine lv_iload_n hx hb dX7_why_107 rfl (lv_at hl 0 rfl) ?_
                    refine mc_ro (n := 2) (As := [.int l, .int 2]) (rest := [.int (σ 7 2)]) (v := [.int (f_needed σ l 2)]) ⟨hx, hb, hml, hown, hts⟩ hK hM (k_needed la g ma σ u l 2 hI kl (vin_dec (by decide +kernel))) gX7_why_X7_needed rfl rfl rfl (by decide +kernel) ⟨Nat.le_of_ble_eq_true rfl, Nat.le_of_ble_eq_true rfl⟩ rfl hl.1 rfl (Nat.le_of_ble_eq_true rfl) dX7_why_108 ⟨Nat.zero_le _, Nat.zero_le _⟩ rfl ?_
                    refine lv_icmp_ge (tgt := 117) hx hb dX7_why_111 (by decide) (fun c_10 => ?_) (fun c_10 => ?_)
                    · replace c_10 := Int32.not_lt.mpr c_10
                      refine lv_iinc (v := 3) (lv' := [(3, .int 3), (0, .ref (ma 0)), (1, .int l), (2, .int v)]) hx hb dX7_why_117 hl (k := 0) rfl (by decide) (by decide) rfl (fun ls hl => ?_)
                      refine lv_goto (tgt := 94) hx hb dX7_why_120 (by decide) ?_
                      refine lv_iload_n hx hb dX7_why_94 rfl (lv_at hl 0 rfl) ?_
                      refine lv_iconst (v := 3) hx hb dX7_why_95 (by decide) ?_
                      refine lv_icmp_ge (tgt := 123) hx hb dX7_why_96 (by decide) (fun c_11 => ?_) (fun c_11 => ?_)
                      · replace c_11 := Int32.not_lt.mpr c_11
                        refine lv_bipush (v := 45) hx hb dX7_why_123 (by decide) ?_
                        exact W.zret (v := 45) hx hb hr rfl (fun t ht hW => ⟨congrArg (fun z => Outcome.returned (some (Value.int z))) (by first | rfl | (simp [-Int32.not_lt, -Int32.not_le, okL, okV, okO, okR, okD, isP, shP, f_why, f_cust, c_1, c_2, c_3, c_4, c_5, c_6, c_7, c_8, c_9, c_10, c_11]; done) | (simp_all [-Int32.not_lt, -Int32.not_le, okL, okV, okO, okR, okD, isP, shP, f_why, f_cust]; done)), ht⟩) (fun _ h => nomatch h) dX7_why_125
                      · exact absurd c_11 (by decide)
                    · replace c_10 := Int32.not_le.mp c_10
                      refine lv_bipush (v := 103) hx hb dX7_why_114 (by decide) ?_
                      exact W.zret (v := 103) hx hb hr rfl (fun t ht hW => ⟨congrArg (fun z => Outcome.returned (some (Value.int z))) (by first | rfl | (simp [-Int32.not_lt, -Int32.not_le, okL, okV, okO, okR, okD, isP, shP, f_why, f_cust, c_1, c_2, c_3, c_4, c_5, c_6, c_7, c_8, c_9, c_10]; done) | (simp_all [-Int32.not_lt, -Int32.not_le, okL, okV, okO, okR, okD, isP, shP, f_why, f_cust]; done)), ht⟩) (fun _ h => nomatch h) dX7_why_116
                · replace c_8 := Int32.not_le.mp c_8
                  refine lv_bipush (v := 103) hx hb dX7_why_114 (by decide) ?_
                  exact W.zret (v := 103) hx hb hr rfl (fun t ht hW => ⟨congrArg (fun z => Outcome.returned (some (Value.int z))) (by first | rfl | (simp [-Int32.not_lt, -Int32.not_le, okL, okV, okO, okR, okD, isP, shP, f_why, f_cust, c_1, c_2, c_3, c_4, c_5, c_6, c_7, c_8]; done) | (simp_all [-Int32.not_lt, -Int32.not_le, okL, okV, okO, okR, okD, isP, shP, f_why, f_cust]; done)), ht⟩) (fun _ h => nomatch h) dX7_why_116
            · replace c_6 := Int32.not_le.mp c_6
              refine lv_bipush (v := 103) hx hb dX7_why_114 (by decide) ?_
              exact W.zret (v := 103) hx hb hr rfl (fun t ht hW => ⟨congrArg (fun z => Outcome.returned (some (Value.int z))) (by first | rfl | (simp [-Int32.not_lt, -Int32.not_le, okL, okV, okO, okR, okD, isP, shP, f_why, f_cust, c_1, c_2, c_3, c_4, c_5, c_6]; done) | (simp_all [-Int32.not_lt, -Int32.not_le, okL, okV, okO, okR, okD, isP, shP, f_why, f_cust]; done)), ht⟩) (fun _ h => nomatch h) dX7_why_116
        · refine lv_aload_n hx hb dX7_why_69 rfl (lv_at hl 0 rfl) ?_
          refine m_get (v := .ref (ma 24)) hx hb hts hinX7 hown hK hM 24 (by decide) lk69 rfl dX7_why_70 ?_
          refine lv_iload_n hx hb dX7_why_73 rfl (lv_at hl 2 rfl) ?_
          refine m_iald (x := (σ 24 (ti v))) hx hb hK hM 24 (by decide) rfl (i := v) (n := 4) (vat4 hI kv) rfl dX7_why_74 ?_
          refine lv_aload_n hx hb dX7_why_75 rfl (lv_at hl 0 rfl) ?_
          refine m_get (v := .ref (ma 9)) hx hb hts hinX7 hown hK hM 9 (by decide) lk23 rfl dX7_why_76 ?_
          refine lv_aload_n hx hb dX7_why_79 rfl (lv_at hl 0 rfl) ?_
          refine m_get (v := .ref (ma 14)) hx hb hts hinX7 hown hK hM 14 (by decide) lk38 rfl dX7_why_80 ?_
          refine lv_iload_n hx hb dX7_why_83 rfl (lv_at hl 1 rfl) ?_
          refine m_iald (x := (σ 14 (ti l))) hx hb hK hM 14 (by decide) rfl (i := l) (n := 24) (lot24 hI kl) rfl dX7_why_84 ?_
          refine m_iald (x := (σ 9 (ti (σ 14 (ti l))))) hx hb hK hM 9 (by decide) rfl (i := (σ 14 (ti l))) (n := 6) (od6 hI (ordO hI kl)) rfl dX7_why_85 ?_
          refine lv_icmp_eq (tgt := 92) hx hb dX7_why_86 (by decide) (fun c_12 => ?_) (fun c_12 => ?_)
          · refine lv_iconst (v := 0) hx hb dX7_why_92 (by decide) ?_
            refine lv_istore_n (lv' := [(3, .int 0), (0, .ref (ma 0)), (1, .int l), (2, .int v)]) hx hb dX7_why_93 rfl hl (by decide) rfl (fun ls hl => ?_)
            refine lv_iload_n hx hb dX7_why_94 rfl (lv_at hl 0 rfl) ?_
            refine lv_iconst (v := 3) hx hb dX7_why_95 (by decide) ?_
            refine lv_icmp_ge (tgt := 123) hx hb dX7_why_96 (by decide) (fun c_13 => ?_) (fun c_13 => ?_)
            · exact absurd c_13 (by decide)
            · replace c_13 := Int32.not_le.mp c_13
              refine lv_aload_n hx hb dX7_why_99 rfl (lv_at hl 1 rfl) ?_
              refine m_get (v := .ref (ma 7)) hx hb hts hinX7 hown hK hM 7 (by decide) lk16 rfl dX7_why_100 ?_
              refine lv_iload_n hx hb dX7_why_103 rfl (lv_at hl 0 rfl) ?_
              refine m_iald (x := (σ 7 0)) hx hb hK hM 7 (by decide) rfl (i := 0) (n := 3) (vin_dec (by decide +kernel)) (congrArg (σ 7) ti_0) dX7_why_104 ?_
              refine lv_aload_n hx hb dX7_why_105 rfl (lv_at hl 1 rfl) ?_
              refine lv_iload_n hx hb dX7_why_106 rfl (lv_at hl 2 rfl) ?_
              refine lv_iload_n hx hb dX7_why_107 rfl (lv_at hl 0 rfl) ?_
              refine mc_ro (n := 2) (As := [.int l, .int 0]) (rest := [.int (σ 7 0)]) (v := [.int (f_needed σ l 0)]) ⟨hx, hb, hml, hown, hts⟩ hK hM (k_needed la g ma σ u l 0 hI kl (vin_dec (by decide +kernel))) gX7_why_X7_needed rfl rfl rfl (by decide +kernel) ⟨Nat.le_of_ble_eq_true rfl, Nat.le_of_ble_eq_true rfl⟩ rfl hl.1 rfl (Nat.le_of_ble_eq_true rfl) dX7_why_108 ⟨Nat.zero_le _, Nat.zero_le _⟩ rfl ?_
              refine lv_icmp_ge (tgt := 117) hx hb dX7_why_111 (by decide) (fun c_14 => ?_) (fun c_14 => ?_)
              · replace c_14 := Int32.not_lt.mpr c_14
                refine lv_iinc (v := 1) (lv' := [(3, .int 1), (0, .ref (ma 0)), (1, .int l), (2, .int v)]) hx hb dX7_why_117 hl (k := 0) rfl (by decide) (by decide) rfl (fun ls hl => ?_)
                refine lv_goto (tgt := 94) hx hb dX7_why_120 (by decide) ?_
                refine lv_iload_n hx hb dX7_why_94 rfl (lv_at hl 0 rfl) ?_
                refine lv_iconst (v := 3) hx hb dX7_why_95 (by decide) ?_
                refine lv_icmp_ge (tgt := 123) hx hb dX7_why_96 (by decide) (fun c_15 => ?_) (fun c_15 => ?_)
                · exact absurd c_15 (by decide)
                · replace c_15 := Int32.not_le.mp c_15
                  refine lv_aload_n hx hb dX7_why_99 rfl (lv_at hl 1 rfl) ?_
                  refine m_get (v := .ref (ma 7)) hx hb hts hinX7 hown hK hM 7 (by decide) lk16 rfl dX7_why_100 ?_
                  refine lv_iload_n hx hb dX7_why_103 rfl (lv_at hl 0 rfl) ?_
                  refine m_iald (x := (σ 7 1)) hx hb hK hM 7 (by decide) rfl (i := 1) (n := 3) (vin_dec (by decide +kernel)) (congrArg (σ 7) ti_1) dX7_why_104 ?_
                  refine lv_aload_n hx hb dX7_why_105 rfl (lv_at hl 1 rfl) ?_
                  refine lv_iload_n hx hb dX7_why_106 rfl (lv_at hl 2 rfl) ?_
                  refine lv_iload_n hx hb dX7_why_107 rfl (lv_at hl 0 rfl) ?_
                  refine mc_ro (n := 2) (As := [.int l, .int 1]) (rest := [.int (σ 7 1)]) (v := [.int (f_needed σ l 1)]) ⟨hx, hb, hml, hown, hts⟩ hK hM (k_needed la g ma σ u l 1 hI kl (vin_dec (by decide +kernel))) gX7_why_X7_needed rfl rfl rfl (by decide +kernel) ⟨Nat.le_of_ble_eq_true rfl, Nat.le_of_ble_eq_true rfl⟩ rfl hl.1 rfl (Nat.le_of_ble_eq_true rfl) dX7_why_108 ⟨Nat.zero_le _, Nat.zero_le _⟩ rfl ?_
                  refine lv_icmp_ge (tgt := 117) hx hb dX7_why_111 (by decide) (fun c_16 => ?_) (fun c_16 => ?_)
                  · replace c_16 := Int32.not_lt.mpr c_16
                    refine lv_iinc (v := 2) (lv' := [(3, .int 2), (0, .ref (ma 0)), (1, .int l), (2, .int v)]) hx hb dX7_why_117 hl (k := 0) rfl (by decide) (by decide) rfl (fun ls hl => ?_)
                    refine lv_goto (tgt := 94) hx hb dX7_why_120 (by decide) ?_
                    refine lv_iload_n hx hb dX7_why_94 rfl (lv_at hl 0 rfl) ?_
                    refine lv_iconst (v := 3) hx hb dX7_why_95 (by decide) ?_
                    refine lv_icmp_ge (tgt := 123) hx hb dX7_why_96 (by decide) (fun c_17 => ?_) (fun c_17 => ?_)
                    · exact absurd c_17 (by decide)
                    · replace c_17 := Int32.not_le.mp c_17
                      refine lv_aload_n hx hb dX7_why_99 rfl (lv_at hl 1 rfl) ?_
                      refine m_get (v := .ref (ma 7)) hx hb hts hinX7 hown hK hM 7 (by decide) lk16 rfl dX7_why_100 ?_
                      refine lv_iload_n hx hb dX7_why_103 rfl (lv_at hl 0 rfl) ?_
                      refine m_iald (x := (σ 7 2)) hx hb hK hM 7 (by decide) rfl (i := 2) (n := 3) (vin_dec (by decide +kernel)) (congrArg (σ 7) ti_2) dX7_why_104 ?_
                      refine lv_aload_n hx hb dX7_why_105 rfl (lv_at hl 1 rfl) ?_
                      refine lv_iload_n hx hb dX7_why_106 rfl (lv_at hl 2 rfl) ?_
                      refine lv_iload_n hx hb dX7_why_107 rfl (lv_at hl 0 rfl) ?_
                      refine mc_ro (n := 2) (As := [.int l, .int 2]) (rest := [.int (σ 7 2)]) (v := [.int (f_needed σ l 2)]) ⟨hx, hb, hml, hown, hts⟩ hK hM (k_needed la g ma σ u l 2 hI kl (vin_dec (by decide +kernel))) gX7_why_X7_needed rfl rfl rfl (by decide +kernel) ⟨Nat.le_of_ble_eq_true rfl, Nat.le_of_ble_eq_true rfl⟩ rfl hl.1 rfl (Nat.le_of_ble_eq_true rfl) dX7_why_108 ⟨Nat.zero_le _, Nat.zero_le _⟩ rfl ?_
                      refine lv_icmp_ge (tgt := 117) hx hb dX7_why_111 (by decide) (fun c_18 => ?_) (fun c_18 => ?_)
                      · replace c_18 := Int32.not_lt.mpr c_18
                        refine lv_iinc (v := 3) (lv' := [(3, .int 3), (0, .ref (ma 0)), (1, .int l), (2, .int v)]) hx hb dX7_why_117 hl (k := 0) rfl (by decide) (by decide) rfl (fun ls hl => ?_)
                        refine lv_goto (tgt := 94) hx hb dX7_why_120 (by decide) ?_
                        refine lv_iload_n hx hb dX7_why_94 rfl (lv_at hl 0 rfl) ?_
                        refine lv_iconst (v := 3) hx hb dX7_why_95 (by decide) ?_
                        refine lv_icmp_ge (tgt := 123) hx hb dX7_why_96 (by decide) (fun c_19 => ?_) (fun c_19 => ?_)
                        · replace c_19 := Int32.not_lt.mpr c_19
                          refine lv_bipush (v := 45) hx hb dX7_why_123 (by decide) ?_
                          exact W.zret (v := 45) hx hb hr rfl (fun t ht hW => ⟨congrArg (fun z => Outcome.returned (some (Value.int z))) (by first | rfl | (simp [-Int32.not_lt, -Int32.not_le, okL, okV, okO, okR, okD, isP, shP, f_why, f_cust, c_1, c_2, c_3, c_4, c_12, c_13, c_14, c_15, c_16, c_17, c_18, c_19]; done) | (simp_all [-Int32.not_lt, -Int32.not_le, okL, okV, okO, okR, okD, isP, shP, f_why, f_cust]; done)), ht⟩) (fun _ h => nomatch h) dX7_why_125
                        · exact absurd c_19 (by decide)
                      · replace c_18 := Int32.not_le.mp c_18
                        refine lv_bipush (v := 103) hx hb dX7_why_114 (by decide) ?_
                        exact W.zret (v := 103) hx hb hr rfl (fun t ht hW => ⟨congrArg (fun z => Outcome.returned (some (Value.int z))) (by first | rfl | (simp [-Int32.not_lt, -Int32.not_le, okL, okV, okO, okR, okD, isP, shP, f_why, f_cust, c_1, c_2, c_3, c_4, c_12, c_13, c_14, c_15, c_16, c_17, c_18]; done) | (simp_all [-Int32.not_lt, -Int32.not_le, okL, okV, okO, okR, okD, isP, shP, f_why, f_cust]; done)), ht⟩) (fun _ h => nomatch h) dX7_why_116
                  · replace c_16 := Int32.not_le.mp c_16
                    refine lv_bipush (v := 103) hx hb dX7_why_114 (by decide) ?_
                    exact W.zret (v := 103) hx hb hr rfl (fun t ht hW => ⟨congrArg (fun z => Outcome.returned (some (Value.int z))) (by first | rfl | (simp [-Int32.not_lt, -Int32.not_le, okL, okV, okO, okR, okD, isP, shP, f_why, f_cust, c_1, c_2, c_3, c_4, c_12, c_13, c_14, c_15, c_16]; done) | (simp_all [-Int32.not_lt, -Int32.not_le, okL, okV, okO, okR, okD, isP, shP, f_why, f_cust]; done)), ht⟩) (fun _ h => nomatch h) dX7_why_116
              · replace c_14 := Int32.not_le.mp c_14
                refine lv_bipush (v := 103) hx hb dX7_why_114 (by decide) ?_
                exact W.zret (v := 103) hx hb hr rfl (fun t ht hW => ⟨congrArg (fun z => Outcome.returned (some (Value.int z))) (by first | rfl | (simp [-Int32.not_lt, -Int32.not_le, okL, okV, okO, okR, okD, isP, shP, f_why, f_cust, c_1, c_2, c_3, c_4, c_12, c_13, c_14]; done) | (simp_all [-Int32.not_lt, -Int32.not_le, okL, okV, okO, okR, okD, isP, shP, f_why, f_cust]; done)), ht⟩) (fun _ h => nomatch h) dX7_why_116
          · refine lv_bipush (v := 98) hx hb dX7_why_89 (by decide) ?_
            exact W.zret (v := 98) hx hb hr rfl (fun t ht hW => ⟨congrArg (fun z => Outcome.returned (some (Value.int z))) (by first | rfl | (simp [-Int32.not_lt, -Int32.not_le, okL, okV, okO, okR, okD, isP, shP, f_why, f_cust, c_1, c_2, c_3, c_4, c_12]; done) | (simp_all [-Int32.not_lt, -Int32.not_le, okL, okV, okO, okR, okD, isP, shP, f_why, f_cust]; done)), ht⟩) (fun _ h => nomatch h) dX7_why_91
      · refine lv_aload_n hx hb dX7_why_42 rfl (lv_at hl 0 rfl) ?_
        refine m_get (v := .ref (ma 23)) hx hb hts hinX7 hown hK hM 23 (by decide) lk66 rfl dX7_why_43 ?_
        refine lv_iload_n hx hb dX7_why_46 rfl (lv_at hl 2 rfl) ?_
        refine m_iald (x := (σ 23 (ti v))) hx hb hK hM 23 (by decide) rfl (i := v) (n := 4) (vat4 hI kv) rfl dX7_why_47 ?_
        refine lv_aload_n hx hb dX7_why_48 rfl (lv_at hl 0 rfl) ?_
        refine lv_iload_n hx hb dX7_why_49 rfl (lv_at hl 1 rfl) ?_
        refine mc_ro (n := 1) (As := [.int l]) (rest := [.int (σ 23 (ti v))]) (v := [.int (f_lightOf σ l)]) ⟨hx, hb, hml, hown, hts⟩ hK hM (k_lightOf la g ma σ u l hI kl) gX7_why_X7_lightOf rfl rfl rfl (by decide +kernel) ⟨Nat.le_of_ble_eq_true rfl, Nat.le_of_ble_eq_true rfl⟩ rfl hl.1 rfl (Nat.le_of_ble_eq_true rfl) dX7_why_50 ⟨Nat.zero_le _, Nat.zero_le _⟩ rfl ?_
        refine lv_icmp_ge (tgt := 59) hx hb dX7_why_53 (by decide) (fun c_20 => ?_) (fun c_20 => ?_)
        · replace c_20 := Int32.not_lt.mpr c_20
          refine lv_aload_n hx hb dX7_why_59 rfl (lv_at hl 0 rfl) ?_
          refine m_get (v := .ref (ma 24)) hx hb hts hinX7 hown hK hM 24 (by decide) lk69 rfl dX7_why_60 ?_
          refine lv_iload_n hx hb dX7_why_63 rfl (lv_at hl 2 rfl) ?_
          refine m_iald (x := (σ 24 (ti v))) hx hb hK hM 24 (by decide) rfl (i := v) (n := 4) (vat4 hI kv) rfl dX7_why_64 ?_
          refine lv_iconst (v := (-1)) hx hb dX7_why_65 (by decide) ?_
          refine lv_icmp_eq (tgt := 92) hx hb dX7_why_66 (by decide) (fun c_21 => ?_) (fun c_21 => ?_)
          · refine lv_iconst (v := 0) hx hb dX7_why_92 (by decide) ?_
            refine lv_istore_n (lv' := [(3, .int 0), (0, .ref (ma 0)), (1, .int l), (2, .int v)]) hx hb dX7_why_93 rfl hl (by decide) rfl (fun ls hl => ?_)
            refine lv_iload_n hx hb dX7_why_94 rfl (lv_at hl 0 rfl) ?_
            refine lv_iconst (v := 3) hx hb dX7_why_95 (by decide) ?_
            refine lv_icmp_ge (tgt := 123) hx hb dX7_why_96 (by decide) (fun c_22 => ?_) (fun c_22 => ?_)
            · exact absurd c_22 (by decide)
            · replace c_22 := Int32.not_le.mp c_22
              refine lv_aload_n hx hb dX7_why_99 rfl (lv_at hl 1 rfl) ?_
              refine m_get (v := .ref (ma 7)) hx hb hts hinX7 hown hK hM 7 (by decide) lk16 rfl dX7_why_100 ?_
              refine lv_iload_n hx hb dX7_why_103 rfl (lv_at hl 0 rfl) ?_
              refine m_iald (x := (σ 7 0)) hx hb hK hM 7 (by decide) rfl (i := 0) (n := 3) (vin_dec (by decide +kernel)) (congrArg (σ 7) ti_0) dX7_why_104 ?_
              refine lv_aload_n hx hb dX7_why_105 rfl (lv_at hl 1 rfl) ?_
              refine lv_iload_n hx hb dX7_why_106 rfl (lv_at hl 2 rfl) ?_
              refine lv_iload_n hx hb dX7_why_107 rfl (lv_at hl 0 rfl) ?_
              refine mc_ro (n := 2) (As := [.int l, .int 0]) (rest := [.int (σ 7 0)]) (v := [.int (f_needed σ l 0)]) ⟨hx, hb, hml, hown, hts⟩ hK hM (k_needed la g ma σ u l 0 hI kl (vin_dec (by decide +kernel))) gX7_why_X7_needed rfl rfl rfl (by decide +kernel) ⟨Nat.le_of_ble_eq_true rfl, Nat.le_of_ble_eq_true rfl⟩ rfl hl.1 rfl (Nat.le_of_ble_eq_true rfl) dX7_why_108 ⟨Nat.zero_le _, Nat.zero_le _⟩ rfl ?_
              refine lv_icmp_ge (tgt := 117) hx hb dX7_why_111 (by decide) (fun c_23 => ?_) (fun c_23 => ?_)
              · replace c_23 := Int32.not_lt.mpr c_23
                refine lv_iinc (v := 1) (lv' := [(3, .int 1), (0, .ref (ma 0)), (1, .int l), (2, .int v)]) hx hb dX7_why_117 hl (k := 0) rfl (by decide) (by decide) rfl (fun ls hl => ?_)
                refine lv_goto (tgt := 94) hx hb dX7_why_120 (by decide) ?_
                refine lv_iload_n hx hb dX7_why_94 rfl (lv_at hl 0 rfl) ?_
                refine lv_iconst (v := 3) hx hb dX7_why_95 (by decide) ?_
                refine lv_icmp_ge (tgt := 123) hx hb dX7_why_96 (by decide) (fun c_24 => ?_) (fun c_24 => ?_)
                · exact absurd c_24 (by decide)
                · replace c_24 := Int32.not_le.mp c_24
                  refine lv_aload_n hx hb dX7_why_99 rfl (lv_at hl 1 rfl) ?_
                  refine m_get (v := .ref (ma 7)) hx hb hts hinX7 hown hK hM 7 (by decide) lk16 rfl dX7_why_100 ?_
                  refine lv_iload_n hx hb dX7_why_103 rfl (lv_at hl 0 rfl) ?_
                  refine m_iald (x := (σ 7 1)) hx hb hK hM 7 (by decide) rfl (i := 1) (n := 3) (vin_dec (by decide +kernel)) (congrArg (σ 7) ti_1) dX7_why_104 ?_
                  refine lv_aload_n hx hb dX7_why_105 rfl (lv_at hl 1 rfl) ?_
                  refine lv_iload_n hx hb dX7_why_106 rfl (lv_at hl 2 rfl) ?_
                  refine lv_iload_n hx hb dX7_why_107 rfl (lv_at hl 0 rfl) ?_
                  refine mc_ro (n := 2) (As := [.int l, .int 1]) (rest := [.int (σ 7 1)]) (v := [.int (f_needed σ l 1)]) ⟨hx, hb, hml, hown, hts⟩ hK hM (k_needed la g ma σ u l 1 hI kl (vin_dec (by decide +kernel))) gX7_why_X7_needed rfl rfl rfl (by decide +kernel) ⟨Nat.le_of_ble_eq_true rfl, Nat.le_of_ble_eq_true rfl⟩ rfl hl.1 rfl (Nat.le_of_ble_eq_true rfl) dX7_why_108 ⟨Nat.zero_le _, Nat.zero_le _⟩ rfl ?_
                  refine lv_icmp_ge (tgt := 117) hx hb dX7_why_111 (by decide) (fun c_25 => ?_) (fun c_25 => ?_)
                  · replace c_25 := Int32.not_lt.mpr c_25
                    refine lv_iinc (v := 2) (lv' := [(3, .int 2), (0, .ref (ma 0)), (1, .int l), (2, .int v)]) hx hb dX7_why_117 hl (k := 0) rfl (by decide) (by decide) rfl (fun ls hl => ?_)
                    refine lv_goto (tgt := 94) hx hb dX7_why_120 (by decide) ?_
                    refine lv_iload_n hx hb dX7_why_94 rfl (lv_at hl 0 rfl) ?_
                    refine lv_iconst (v := 3) hx hb dX7_why_95 (by decide) ?_
                    refine lv_icmp_ge (tgt := 123) hx hb dX7_why_96 (by decide) (fun c_26 => ?_) (fun c_26 => ?_)
                    · exact absurd c_26 (by decide)
                    · replace c_26 := Int32.not_le.mp c_26
                      refine lv_aload_n hx hb dX7_why_99 rfl (lv_at hl 1 rfl) ?_
                      refine m_get (v := .ref (ma 7)) hx hb hts hinX7 hown hK hM 7 (by decide) lk16 rfl dX7_why_100 ?_
                      refine lv_iload_n hx hb dX7_why_103 rfl (lv_at hl 0 rfl) ?_
                      refine m_iald (x := (σ 7 2)) hx hb hK hM 7 (by decide) rfl (i := 2) (n := 3) (vin_dec (by decide +kernel)) (congrArg (σ 7) ti_2) dX7_why_104 ?_
                      refine lv_aload_n hx hb dX7_why_105 rfl (lv_at hl 1 rfl) ?_
                      refine lv_iload_n hx hb dX7_why_106 rfl (lv_at hl 2 rfl) ?_
                      refine lv_iload_n hx hb dX7_why_107 rfl (lv_at hl 0 rfl) ?_
                      refine mc_ro (n := 2) (As := [.int l, .int 2]) (rest := [.int (σ 7 2)]) (v := [.int (f_needed σ l 2)]) ⟨hx, hb, hml, hown, hts⟩ hK hM (k_needed la g ma σ u l 2 hI kl (vin_dec (by decide +kernel))) gX7_why_X7_needed rfl rfl rfl (by decide +kernel) ⟨Nat.le_of_ble_eq_true rfl, Nat.le_of_ble_eq_true rfl⟩ rfl hl.1 rfl (Nat.le_of_ble_eq_true rfl) dX7_why_108 ⟨Nat.zero_le _, Nat.zero_le _⟩ rfl ?_
                      refine lv_icmp_ge (tgt := 117) hx hb dX7_why_111 (by decide) (fun c_27 => ?_) (fun c_27 => ?_)
                      · replace c_27 := Int32.not_lt.mpr c_27
                        refine lv_iinc (v := 3) (lv' := [(3, .int 3), (0, .ref (ma 0)), (1, .int l), (2, .int v)]) hx hb dX7_why_117 hl (k := 0) rfl (by decide) (by decide) rfl (fun ls hl => ?_)
                        refine lv_goto (tgt := 94) hx hb dX7_why_120 (by decide) ?_
                        refine lv_iload_n hx hb dX7_why_94 rfl (lv_at hl 0 rfl) ?_
                        refine lv_iconst (v := 3) hx hb dX7_why_95 (by decide) ?_
                        refine lv_icmp_ge (tgt := 123) hx hb dX7_why_96 (by decide) (fun c_28 => ?_) (fun c_28 => ?_)
                        · replace c_28 := Int32.not_lt.mpr c_28
                          refine lv_bipush (v := 45) hx hb dX7_why_123 (by decide) ?_
                          exact W.zret (v := 45) hx hb hr rfl (fun t ht hW => ⟨congrArg (fun z => Outcome.returned (some (Value.int z))) (by first | rfl | (simp [-Int32.not_lt, -Int32.not_le, okL, okV, okO, okR, okD, isP, shP, f_why, f_cust, c_1, c_2, c_3, c_20, c_21, c_22, c_23, c_24, c_25, c_26, c_27, c_28]; done) | (simp_all [-Int32.not_lt, -Int32.not_le, okL, okV, okO, okR, okD, isP, shP, f_why, f_cust]; done)), ht⟩) (fun _ h => nomatch h) dX7_why_125
                        · exact absurd c_28 (by decide)
                      · replace c_27 := Int32.not_le.mp c_27
                        refine lv_bipush (v := 103) hx hb dX7_why_114 (by decide) ?_
                        exact W.zret (v := 103) hx hb hr rfl (fun t ht hW => ⟨congrArg (fun z => Outcome.returned (some (Value.int z))) (by first | rfl | (simp [-Int32.not_lt, -Int32.not_le, okL, okV, okO, okR, okD, isP, shP, f_why, f_cust, c_1, c_2, c_3, c_20, c_21, c_22, c_23, c_24, c_25, c_26, c_27]; done) | (simp_all [-Int32.not_lt, -Int32.not_le, okL, okV, okO, okR, okD, isP, shP, f_why, f_cust]; done)), ht⟩) (fun _ h => nomatch h) dX7_why_116
                  · replace c_25 := Int32.not_le.mp c_25
                    refine lv_bipush (v := 103) hx hb dX7_why_114 (by decide) ?_
                    exact W.zret (v := 103) hx hb hr rfl (fun t ht hW => ⟨congrArg (fun z => Outcome.returned (some (Value.int z))) (by first | rfl | (simp [-Int32.not_lt, -Int32.not_le, okL, okV, okO, okR, okD, isP, shP, f_why, f_cust, c_1, c_2, c_3, c_20, c_21, c_22, c_23, c_24, c_25]; done) | (simp_all [-Int32.not_lt, -Int32.not_le, okL, okV, okO, okR, okD, isP, shP, f_why, f_cust]; done)), ht⟩) (fun _ h => nomatch h) dX7_why_116
              · replace c_23 := Int32.not_le.mp c_23
                refine lv_bipush (v := 103) hx hb dX7_why_114 (by decide) ?_
                exact W.zret (v := 103) hx hb hr rfl (fun t ht hW => ⟨congrArg (fun z => Outcome.returned (some (Value.int z))) (by first | rfl | (simp [-Int32.not_lt, -Int32.not_le, okL, okV, okO, okR, okD, isP, shP, f_why, f_cust, c_1, c_2, c_3, c_20, c_21, c_22, c_23]; done) | (simp_all [-Int32.not_lt, -Int32.not_le, okL, okV, okO, okR, okD, isP, shP, f_why, f_cust]; done)), ht⟩) (fun _ h => nomatch h) dX7_why_116
          · refine lv_aload_n hx hb dX7_why_69 rfl (lv_at hl 0 rfl) ?_
            refine m_get (v := .ref (ma 24)) hx hb hts hinX7 hown hK hM 24 (by decide) lk69 rfl dX7_why_70 ?_
            refine lv_iload_n hx hb dX7_why_73 rfl (lv_at hl 2 rfl) ?_
            refine m_iald (x := (σ 24 (ti v))) hx hb hK hM 24 (by decide) rfl (i := v) (n := 4) (vat4 hI kv) rfl dX7_why_74 ?_
            refine lv_aload_n hx hb dX7_why_75 rfl (lv_at hl 0 rfl) ?_
            refine m_get (v := .ref (ma 9)) hx hb hts hinX7 hown hK hM 9 (by decide) lk23 rfl dX7_why_76 ?_
            refine lv_aload_n hx hb dX7_why_79 rfl (lv_at hl 0 rfl) ?_
            refine m_get (v := .ref (ma 14)) hx hb hts hinX7 hown hK hM 14 (by decide) lk38 rfl dX7_why_80 ?_
            refine lv_iload_n hx hb dX7_why_83 rfl (lv_at hl 1 rfl) ?_
            refine m_iald (x := (σ 14 (ti l))) hx hb hK hM 14 (by decide) rfl (i := l) (n := 24) (lot24 hI kl) rfl dX7_why_84 ?_
            refine m_iald (x := (σ 9 (ti (σ 14 (ti l))))) hx hb hK hM 9 (by decide) rfl (i := (σ 14 (ti l))) (n := 6) (od6 hI (ordO hI kl)) rfl dX7_why_85 ?_
            refine lv_icmp_eq (tgt := 92) hx hb dX7_why_86 (by decide) (fun c_29 => ?_) (fun c_29 => ?_)
            · refine lv_iconst (v := 0) hx hb dX7_why_92 (by decide) ?_
              refine lv_istore_n (lv' := [(3, .int 0), (0, .ref (ma 0)), (1, .int l), (2, .int v)]) hx hb dX7_why_93 rfl hl (by decide) rfl (fun ls hl => ?_)
              refine lv_iload_n hx hb dX7_why_94 rfl (lv_at hl 0 rfl) ?_
              refine lv_iconst (v := 3) hx hb dX7_why_95 (by decide) ?_
              refine lv_icmp_ge (tgt := 123) hx hb dX7_why_96 (by decide) (fun c_30 => ?_) (fun c_30 => ?_)
              · exact absurd c_30 (by decide)
              · replace c_30 := Int32.not_le.mp c_30
                refine lv_aload_n hx hb dX7_why_99 rfl (lv_at hl 1 rfl) ?_
                refine m_get (v := .ref (ma 7)) hx hb hts hinX7 hown hK hM 7 (by decide) lk16 rfl dX7_why_100 ?_
                refine lv_iload_n hx hb dX7_why_103 rfl (lv_at hl 0 rfl) ?_
                refine m_iald (x := (σ 7 0)) hx hb hK hM 7 (by decide) rfl (i := 0) (n := 3) (vin_dec (by decide +kernel)) (congrArg (σ 7) ti_0) dX7_why_104 ?_
                refine lv_aload_n hx hb dX7_why_105 rfl (lv_at hl 1 rfl) ?_
                refine lv_iload_n hx hb dX7_why_106 rfl (lv_at hl 2 rfl) ?_
                refine lv_iload_n hx hb dX7_why_107 rfl (lv_at hl 0 rfl) ?_
                refine mc_ro (n := 2) (As := [.int l, .int 0]) (rest := [.int (σ 7 0)]) (v := [.int (f_needed σ l 0)]) ⟨hx, hb, hml, hown, hts⟩ hK hM (k_needed la g ma σ u l 0 hI kl (vin_dec (by decide +kernel))) gX7_why_X7_needed rfl rfl rfl (by decide +kernel) ⟨Nat.le_of_ble_eq_true rfl, Nat.le_of_ble_eq_true rfl⟩ rfl hl.1 rfl (Nat.le_of_ble_eq_true rfl) dX7_why_108 ⟨Nat.zero_le _, Nat.zero_le _⟩ rfl ?_
                refine lv_icmp_ge (tgt := 117) hx hb dX7_why_111 (by decide) (fun c_31 => ?_) (fun c_31 => ?_)
                · replace c_31 := Int32.not_lt.mpr c_31
                  refine lv_iinc (v := 1) (lv' := [(3, .int 1), (0, .ref (ma 0)), (1, .int l), (2, .int v)]) hx hb dX7_why_117 hl (k := 0) rfl (by decide) (by decide) rfl (fun ls hl => ?_)
                  refine lv_goto (tgt := 94) hx hb dX7_why_120 (by decide) ?_
                  refine lv_iload_n hx hb dX7_why_94 rfl (lv_at hl 0 rfl) ?_
                  refine lv_iconst (v := 3) hx hb dX7_why_95 (by decide) ?_
                  refine lv_icmp_ge (tgt := 123) hx hb dX7_why_96 (by decide) (fun c_32 => ?_) (fun c_32 => ?_)
                  · exact absurd c_32 (by decide)
                  · replace c_32 := Int32.not_le.mp c_32
                    refine lv_aload_n hx hb dX7_why_99 rfl (lv_at hl 1 rfl) ?_
                    refine m_get (v := .ref (ma 7)) hx hb hts hinX7 hown hK hM 7 (by decide) lk16 rfl dX7_why_100 ?_
                    refine lv_iload_n hx hb dX7_why_103 rfl (lv_at hl 0 rfl) ?_
                    refine m_iald (x := (σ 7 1)) hx hb hK hM 7 (by decide) rfl (i := 1) (n := 3) (vin_dec (by decide +kernel)) (congrArg (σ 7) ti_1) dX7_why_104 ?_
                    refine lv_aload_n hx hb dX7_why_105 rfl (lv_at hl 1 rfl) ?_
                    refine lv_iload_n hx hb dX7_why_106 rfl (lv_at hl 2 rfl) ?_
                    refine lv_iload_n hx hb dX7_why_107 rfl (lv_at hl 0 rfl) ?_
                    refine mc_ro (n := 2) (As := [.int l, .int 1]) (rest := [.int (σ 7 1)]) (v := [.int (f_needed σ l 1)]) ⟨hx, hb, hml, hown, hts⟩ hK hM (k_needed la g ma σ u l 1 hI kl (vin_dec (by decide +kernel))) gX7_why_X7_needed rfl rfl rfl (by decide +kernel) ⟨Nat.le_of_ble_eq_true rfl, Nat.le_of_ble_eq_true rfl⟩ rfl hl.1 rfl (Nat.le_of_ble_eq_true rfl) dX7_why_108 ⟨Nat.zero_le _, Nat.zero_le _⟩ rfl ?_
                    refine lv_icmp_ge (tgt := 117) hx hb dX7_why_111 (by decide) (fun c_33 => ?_) (fun c_33 => ?_)
                    · replace c_33 := Int32.not_lt.mpr c_33
                      refine lv_iinc (v := 2) (lv' := [(3, .int 2), (0, .ref (ma 0)), (1, .int l), (2, .int v)]) hx hb dX7_why_117 hl (k := 0) rfl (by decide) (by decide) rfl (fun ls hl => ?_)
                      refine lv_goto (tgt := 94) hx hb dX7_why_120 (by decide) ?_
                      refine lv_iload_n hx hb dX7_why_94 rfl (lv_at hl 0 rfl) ?_
                      refine lv_iconst (v := 3) hx hb dX7_why_95 (by decide) ?_
                      refine lv_icmp_ge (tgt := 123) hx hb dX7_why_96 (by decide) (fun c_34 => ?_) (fun c_34 => ?_)
                      · exact absurd c_34 (by decide)
                      · replace c_34 := Int32.not_le.mp c_34
                        refine lv_aload_n hx hb dX7_why_99 rfl (lv_at hl 1 rfl) ?_
                        refine m_get (v := .ref (ma 7)) hx hb hts hinX7 hown hK hM 7 (by decide) lk16 rfl dX7_why_100 ?_
                        refine lv_iload_n hx hb dX7_why_103 rfl (lv_at hl 0 rfl) ?_
                        refine m_iald (x := (σ 7 2)) hx hb hK hM 7 (by decide) rfl (i := 2) (n := 3) (vin_dec (by decide +kernel)) (congrArg (σ 7) ti_2) dX7_why_104 ?_
                        refine lv_aload_n hx hb dX7_why_105 rfl (lv_at hl 1 rfl) ?_
                        refine lv_iload_n hx hb dX7_why_106 rfl (lv_at hl 2 rfl) ?_
                        refine lv_iload_n hx hb dX7_why_107 rfl (lv_at hl 0 rfl) ?_
                        refine mc_ro (n := 2) (As := [.int l, .int 2]) (rest := [.int (σ 7 2)]) (v := [.int (f_needed σ l 2)]) ⟨hx, hb, hml, hown, hts⟩ hK hM (k_needed la g ma σ u l 2 hI kl (vin_dec (by decide +kernel))) gX7_why_X7_needed rfl rfl rfl (by decide +kernel) ⟨Nat.le_of_ble_eq_true rfl, Nat.le_of_ble_eq_true rfl⟩ rfl hl.1 rfl (Nat.le_of_ble_eq_true rfl) dX7_why_108 ⟨Nat.zero_le _, Nat.zero_le _⟩ rfl ?_
                        refine lv_icmp_ge (tgt := 117) hx hb dX7_why_111 (by decide) (fun c_35 => ?_) (fun c_35 => ?_)
                        · replace c_35 := Int32.not_lt.mpr c_35
                          refine lv_iinc (v := 3) (lv' := [(3, .int 3), (0, .ref (ma 0)), (1, .int l), (2, .int v)]) hx hb dX7_why_117 hl (k := 0) rfl (by decide) (by decide) rfl (fun ls hl => ?_)
                          refine lv_goto (tgt := 94) hx hb dX7_why_120 (by decide) ?_
                          refine lv_iload_n hx hb dX7_why_94 rfl (lv_at hl 0 rfl) ?_
                          refine lv_iconst (v := 3) hx hb dX7_why_95 (by decide) ?_
                          refine lv_icmp_ge (tgt := 123) hx hb dX7_why_96 (by decide) (fun c_36 => ?_) (fun c_36 => ?_)
                          · replace c_36 := Int32.not_lt.mpr c_36
                            refine lv_bipush (v := 45) hx hb dX7_why_123 (by decide) ?_
                            exact W.zret (v := 45) hx hb hr rfl (fun t ht hW => ⟨congrArg (fun z => Outcome.returned (some (Value.int z))) (by first | rfl | (simp [-Int32.not_lt, -Int32.not_le, okL, okV, okO, okR, okD, isP, shP, f_why, f_cust, c_1, c_2, c_3, c_20, c_21, c_29, c_30, c_31, c_32, c_33, c_34, c_35, c_36]; done) | (simp_all [-Int32.not_lt, -Int32.not_le, okL, okV, okO, okR, okD, isP, shP, f_why, f_cust]; done)), ht⟩) (fun _ h => nomatch h) dX7_why_125
                          · exact absurd c_36 (by decide)
                        · replace c_35 := Int32.not_le.mp c_35
                          refine lv_bipush (v := 103) hx hb dX7_why_114 (by decide) ?_
                          exact W.zret (v := 103) hx hb hr rfl (fun t ht hW => ⟨congrArg (fun z => Outcome.returned (some (Value.int z))) (by first | rfl | (simp [-Int32.not_lt, -Int32.not_le, okL, okV, okO, okR, okD, isP, shP, f_why, f_cust, c_1, c_2, c_3, c_20, c_21, c_29, c_30, c_31, c_32, c_33, c_34, c_35]; done) | (simp_all [-Int32.not_lt, -Int32.not_le, okL, okV, okO, okR, okD, isP, shP, f_why, f_cust]; done)), ht⟩) (fun _ h => nomatch h) dX7_why_116
                    · replace c_33 := Int32.not_le.mp c_33
                      refine lv_bipush (v := 103) hx hb dX7_why_114 (by decide) ?_
                      exact W.zret (v := 103) hx hb hr rfl (fun t ht hW => ⟨congrArg (fun z => Outcome.returned (some (Value.int z))) (by first | rfl | (simp [-Int32.not_lt, -Int32.not_le, okL, okV, okO, okR, okD, isP, shP, f_why, f_cust, c_1, c_2, c_3, c_20, c_21, c_29, c_30, c_31, c_32, c_33]; done) | (simp_all [-Int32.not_lt, -Int32.not_le, okL, okV, okO, okR, okD, isP, shP, f_why, f_cust]; done)), ht⟩) (fun _ h => nomatch h) dX7_why_116
                · replace c_31 := Int32.not_le.mp c_31
                  refine lv_bipush (v := 103) hx hb dX7_why_114 (by decide) ?_
                  exact W.zret (v := 103) hx hb hr rfl (fun t ht hW => ⟨congrArg (fun z => Outcome.returned (some (Value.int z))) (by first | rfl | (simp [-Int32.not_lt, -Int32.not_le, okL, okV, okO, okR, okD, isP, shP, f_why, f_cust, c_1, c_2, c_3, c_20, c_21, c_29, c_30, c_31]; done) | (simp_all [-Int32.not_lt, -Int32.not_le, okL, okV, okO, okR, okD, isP, shP, f_why, f_cust]; done)), ht⟩) (fun _ h => nomatch h) dX7_why_116
            · refine lv_bipush (v := 98) hx hb dX7_why_89 (by decide) ?_
              exact W.zret (v := 98) hx hb hr rfl (fun t ht hW => ⟨congrArg (fun z => Outcome.returned (some (Value.int z))) (by first | rfl | (simp [-Int32.not_lt, -Int32.not_le, okL, okV, okO, okR, okD, isP, shP, f_why, f_cust, c_1, c_2, c_3, c_20, c_21, c_29]; done) | (simp_all [-Int32.not_lt, -Int32.not_le, okL, okV, okO, okR, okD, isP, shP, f_why, f_cust]; done)), ht⟩) (fun _ h => nomatch h) dX7_why_91
        · replace c_20 := Int32.not_le.mp c_20
          refine lv_bipush (v := 115) hx hb dX7_why_56 (by decide) ?_
          exact W.zret (v := 115) hx hb hr rfl (fun t ht hW => ⟨congrArg (fun z => Outcome.returned (some (Value.int z))) (by first | rfl | (simp [-Int32.not_lt, -Int32.not_le, okL, okV, okO, okR, okD, isP, shP, f_why, f_cust, c_1, c_2, c_3, c_20]; done) | (simp_all [-Int32.not_lt, -Int32.not_le, okL, okV, okO, okR, okD, isP, shP, f_why, f_cust]; done)), ht⟩) (fun _ h => nomatch h) dX7_why_58
    · replace c_2 := Int32.not_le.mp c_2
      refine lv_bipush (v := 104) hx hb dX7_why_29 (by decide) ?_
      exact W.zret (v := 104) hx hb hr rfl (fun t ht hW => ⟨congrArg (fun z => Outcome.returned (some (Value.int z))) (by first | rfl | (simp [-Int32.not_lt, -Int32.not_le, okL, okV, okO, okR, okD, isP, shP, f_why, f_cust, c_1, c_2]; done) | (simp_all [-Int32.not_lt, -Int32.not_le, okL, okV, okO, okR, okD, isP, shP, f_why, f_cust]; done)), ht⟩) (fun _ h => nomatch h) dX7_why_31
  · refine lv_bipush (v := 119) hx hb dX7_why_11 (by decide) ?_
    exact W.zret (v := 119) hx hb hr rfl (fun t ht hW => ⟨congrArg (fun z => Outcome.returned (some (Value.int z))) (by first | rfl | (simp [-Int32.not_lt, -Int32.not_le, okL, okV, okO, okR, okD, isP, shP, f_why, f_cust, c_1]; done) | (simp_all [-Int32.not_lt, -Int32.not_le, okL, okV, okO, okR, okD, isP, shP, f_why, f_cust]; done)), ht⟩) (fun _ h => nomatch h) dX7_why_13
set_option maxHeartbeats 4000000 in
set_option maxRecDepth 100000 in
theorem k_waiting (la : Launch) (g : EG) (ma : Nat → Nat) (σ : Sg) (u : Nat → Int64) (h3 : CN σ 3 24) : Met la yX7_waiting wsX7_waiting ({ frames := 0, cells := 0, slots := 0, locals := 0 } : Room) (va_Pc [.ref (ma 0)] (fun U => MR g ma σ u U.heap ∧ KK g U)) (QR (.returned (some (.int (f_waiting σ))))) 0 0 (fun _ => False) := by
  refine Met.ofW (cc := cX7_waiting) (maxL := 3) (ret := (some .int)) (by decide) rfl ?_
  intro p e s m args below meth c s₁ B hml hv
  obtain ⟨rfl, hR0, hK⟩ := hv
  have hx := B.exec
  have hb := B.bytes
  have hr := B.returns
  have hts := atoms_spec (ws := wsX7_waiting) B.pre
  have hown : s.vm.findClass RX7 = some m.cls := findClass_of_methodNamed B.named
  have hlocks := B.notSynchronized
  have hM : MS g 0 ma σ u s.heap s.heap [] := MS.start hR0
  have hinX7 : ∀ w ∈ wsX70, w ∈ wsX7_waiting := by decide +kernel
  have lk59 := hts (.fieldLink RX7 59 "DyehouseLedgerModel" "state" "[C") (by decide +kernel)
  have lk92 := hts (.fieldLink RX7 92 "DyehouseLedgerModel" "lots" "I") (by decide +kernel)
  have hl := lv_entry ([.ref (ma 0)]) (n := 3) (Nat.le_of_ble_eq_true rfl)
  rw [lg_entry_eq]
  generalize (lg_sl ([.ref (ma 0)]) ++ List.replicate (3 - (lg_sl ([.ref (ma 0)])).length) Slot.unset).toArray = ls at hl ⊢
  have hl : lv_has ls 3 [(0, .ref (ma 0))] := hl
  refine lv_iconst (v := 0) hx hb dX7_waiting_0 (by decide) ?_
  refine lv_istore_n (lv' := [(1, .int 0), (0, .ref (ma 0))]) hx hb dX7_waiting_1 rfl hl (by decide) rfl (fun ls hl => ?_)
  refine lv_iconst (v := 0) hx hb dX7_waiting_2 (by decide) ?_
  refine lv_istore_n (lv' := [(2, .int 0), (1, .int 0), (0, .ref (ma 0))]) hx hb dX7_waiting_3 rfl hl (by decide) rfl (fun ls hl => ?_)
  have lp4 : ∀ (n9 : Nat) (i : Nat), (i ≤ nL σ) → nL σ - i < n9 → ∀ (ls : Array Slot), lv_has ls 3 [(0, .ref (ma 0)), (1, .int (sumF (fun j => if σ 21 j = 119 then 1 else 0) i)), (2, .int (nI i))] → W p la e ({ frames := 0, cells := 0, slots := 0, locals := 0 } : Room) s m ([.ref (ma 0)] : List Value).toArray below meth c s.heap [] 0 0 (MQ below (QR (.returned (some (.int (f_waiting σ))))) ([.ref (ma 0)] : List Value).toArray s 0 0 (fun _ => False)) (F0 m 4 ls []) := by
    intro n9_4
    induction n9_4 with
    | zero => intro i _ h9 ; exact absurd h9 (Nat.not_lt_zero _)
    | succ n9_4 ih_4 =>
      intro i hi h9 ls hl
      refine lv_iload_n hx hb dX7_waiting_4 rfl (lv_at hl 2 rfl) ?_
      refine lv_aload_n hx hb dX7_waiting_5 rfl (lv_at hl 0 rfl) ?_
      refine m_get (v := .int (σ 3 0)) hx hb hts hinX7 hown hK hM 3 (by decide) lk92 rfl dX7_waiting_6 ?_
      refine lv_icmp_ge (tgt := 37) hx hb dX7_waiting_9 (by decide) (fun c_1 => ?_) (fun c_1 => ?_)
      · replace c_1 := Int32.not_lt.mpr c_1
        have hi9 : i = nL σ := fn3_eq h3 hi c_1
        refine lv_iload_n hx hb dX7_waiting_37 rfl (lv_at hl 1 rfl) ?_
        exact W.iret (v := (sumF (fun j => if σ 21 j = 119 then 1 else 0) i)) hx hb hr (fun t ht hW => ⟨congrArg (fun z => Outcome.returned (some (Value.int z))) (by first | rfl | (simp [-Int32.not_lt, -Int32.not_le, okL, okV, okO, okR, okD, isP, shP, f_waiting, sumF, hi, c_1, hi9]; done) | (simp_all [-Int32.not_lt, -Int32.not_le, okL, okV, okO, okR, okD, isP, shP, f_waiting, sumF]; done)), ht⟩) (fun _ h => nomatch h) dX7_waiting_38
      · replace c_1 := Int32.not_le.mp c_1
        have hi1 : i < nL σ := fn3_lt h3 hi c_1
        have hLb : nL σ ≤ 24 := (h3.lt (by decide)).1
        refine lv_iload_n hx hb dX7_waiting_12 rfl (lv_at hl 1 rfl) ?_
        refine lv_aload_n hx hb dX7_waiting_13 rfl (lv_at hl 0 rfl) ?_
        refine m_get (v := .ref (ma 21)) hx hb hts hinX7 hown hK hM 21 (by decide) lk59 rfl dX7_waiting_14 ?_
        refine lv_iload_n hx hb dX7_waiting_17 rfl (lv_at hl 2 rfl) ?_
        refine m_cald (x := (σ 21 i)) hx hb hK hM (i := (nI i)) (vin_mono (vin_nI hi1 (by omega)) hLb) (congrArg (σ 21) (ti_nI (by omega))) dX7_waiting_18 ?_
        refine lv_bipush (v := 119) hx hb dX7_waiting_19 (by decide) ?_
        refine lv_icmp_ne (tgt := 28) hx hb dX7_waiting_21 (by decide) (fun c_2 => ?_) (fun c_2 => ?_)
        · refine lv_iconst (v := 0) hx hb dX7_waiting_28 (by decide) ?_
          refine lv_iadd hx hb dX7_waiting_29 ?_
          refine lv_istore_n (lv' := [(1, .int ((sumF (fun j => if σ 21 j = 119 then 1 else 0) i) + 0)), (0, .ref (ma 0)), (2, .int (nI i))]) hx hb dX7_waiting_30 rfl hl (by decide) rfl (fun ls hl => ?_)
          refine lv_iinc (v := ((nI i) + 1)) (lv' := [(2, .int ((nI i) + 1)), (1, .int ((sumF (fun j => if σ 21 j = 119 then 1 else 0) i) + 0)), (0, .ref (ma 0))]) hx hb dX7_waiting_31 hl (k := 2) rfl rfl (by decide) rfl (fun ls hl => ?_)
          refine lv_goto (tgt := 4) hx hb dX7_waiting_34 (by decide) ?_
          have e_3 : ((sumF (fun j => if σ 21 j = 119 then 1 else 0) (i + 1)) : Int32) = ((sumF (fun j => if σ 21 j = 119 then 1 else 0) i) + 0) := (by first | rfl | (simp [-Int32.not_lt, -Int32.not_le, okL, okV, okO, okR, okD, isP, shP, f_waiting, sumF, hi, c_1, c_2]; done) | (simp_all [-Int32.not_lt, -Int32.not_le, okL, okV, okO, okR, okD, isP, shP, f_waiting, sumF]; done))
          have e_4 : ((nI (i + 1)) : Int32) = ((nI i) + 1) := (nI_1 i).symm
          have hl2 : lv_has ls 3 [(0, .ref (ma 0)), (1, .int (sumF (fun j => if σ 21 j = 119 then 1 else 0) (i + 1))), (2, .int (nI (i + 1)))] := by
            rw [e_3, e_4]
            exact lv_sub hl [2, 1, 0] rfl
          exact ih_4 (i + 1) (by omega) (by omega) ls hl2
        · refine lv_iconst (v := 1) hx hb dX7_waiting_24 (by decide) ?_
          refine lv_goto (tgt := 29) hx hb dX7_waiting_25 (by decide) ?_
          refine lv_iadd hx hb dX7_waiting_29 ?_
          refine lv_istore_n (lv' := [(1, .int ((sumF (fun j => if σ 21 j = 119 then 1 else 0) i) + 1)), (0, .ref (ma 0)), (2, .int (nI i))]) hx hb dX7_waiting_30 rfl hl (by decide) rfl (fun ls hl => ?_)
          refine lv_iinc (v := ((nI i) + 1)) (lv' := [(2, .int ((nI i) + 1)), (1, .int ((sumF (fun j => if σ 21 j = 119 then 1 else 0) i) + 1)), (0, .ref (ma 0))]) hx hb dX7_waiting_31 hl (k := 2) rfl rfl (by decide) rfl (fun ls hl => ?_)
          refine lv_goto (tgt := 4) hx hb dX7_waiting_34 (by decide) ?_
          have e_5 : ((sumF (fun j => if σ 21 j = 119 then 1 else 0) (i + 1)) : Int32) = ((sumF (fun j => if σ 21 j = 119 then 1 else 0) i) + 1) := (by first | rfl | (simp [-Int32.not_lt, -Int32.not_le, okL, okV, okO, okR, okD, isP, shP, f_waiting, sumF, hi, c_1, c_2]; done) | (simp_all [-Int32.not_lt, -Int32.not_le, okL, okV, okO, okR, okD, isP, shP, f_waiting, sumF]; done))
          have e_6 : ((nI (i + 1)) : Int32) = ((nI i) + 1) := (nI_1 i).symm
          have hl2 : lv_has ls 3 [(0, .ref (ma 0)), (1, .int (sumF (fun j => if σ 21 j = 119 then 1 else 0) (i + 1))), (2, .int (nI (i + 1)))] := by
            rw [e_5, e_6]
            exact lv_sub hl [2, 1, 0] rfl
          exact ih_4 (i + 1) (by omega) (by omega) ls hl2
  have e_7 : ((sumF (fun j => if σ 21 j = 119 then 1 else 0) (0)) : Int32) = 0 := (by first | rfl | (simp [-Int32.not_lt, -Int32.not_le, okL, okV, okO, okR, okD, isP, shP, f_waiting, sumF]; done) | (simp_all [-Int32.not_lt, -Int32.not_le, okL, okV, okO, okR, okD, isP, shP, f_waiting, sumF]; done))
  have e_8 : ((nI (0)) : Int32) = 0 := (by first | rfl | (simp [-Int32.not_lt, -Int32.not_le, okL, okV, okO, okR, okD, isP, shP, f_waiting, sumF]; done) | (simp_all [-Int32.not_lt, -Int32.not_le, okL, okV, okO, okR, okD, isP, shP, f_waiting, sumF]; done))
  have hl2 : lv_has ls 3 [(0, .ref (ma 0)), (1, .int (sumF (fun j => if σ 21 j = 119 then 1 else 0) (0))), (2, .int (nI (0)))] := by
    rw [e_7, e_8]
    exact lv_sub hl [2, 1, 0] rfl
  exact lp4 (nL σ - 0 + 1) (0) (Nat.zero_le _) (Nat.lt_succ_self _) ls hl2
set_option maxHeartbeats 4000000 in
set_option maxRecDepth 100000 in
theorem k_inPlan (la : Launch) (g : EG) (ma : Nat → Nat) (σ : Sg) (u : Nat → Int64) (v : Int32) (h3 : CN σ 3 24) : Met la yX7_inPlan wsX7_inPlan ({ frames := 0, cells := 0, slots := 0, locals := 0 } : Room) (va_Pc [.ref (ma 0), .int v] (fun U => MR g ma σ u U.heap ∧ KK g U)) (QR (.returned (some (.int (f_inPlan σ v))))) 0 0 (fun _ => False) := by
  refine Met.ofW (cc := cX7_inPlan) (maxL := 4) (ret := (some .int)) (by decide) rfl ?_
  intro p e s m args below meth c s₁ B hml hv
  obtain ⟨rfl, hR0, hK⟩ := hv
  have hx := B.exec
  have hb := B.bytes
  have hr := B.returns
  have hts := atoms_spec (ws := wsX7_inPlan) B.pre
  have hown : s.vm.findClass RX7 = some m.cls := findClass_of_methodNamed B.named
  have hlocks := B.notSynchronized
  have hM : MS g 0 ma σ u s.heap s.heap [] := MS.start hR0
  have hinX7 : ∀ w ∈ wsX70, w ∈ wsX7_inPlan := by decide +kernel
  have lk56 := hts (.fieldLink RX7 56 "DyehouseLedgerModel" "plan" "[I") (by decide +kernel)
  have lk92 := hts (.fieldLink RX7 92 "DyehouseLedgerModel" "lots" "I") (by decide +kernel)
  have hl := lv_entry ([.ref (ma 0), .int v]) (n := 4) (Nat.le_of_ble_eq_true rfl)
  rw [lg_entry_eq]
  generalize (lg_sl ([.ref (ma 0), .int v]) ++ List.replicate (4 - (lg_sl ([.ref (ma 0), .int v])).length) Slot.unset).toArray = ls at hl ⊢
  have hl : lv_has ls 4 [(0, .ref (ma 0)), (1, .int v)] := hl
  refine lv_iconst (v := 0) hx hb dX7_inPlan_0 (by decide) ?_
  refine lv_istore_n (lv' := [(2, .int 0), (0, .ref (ma 0)), (1, .int v)]) hx hb dX7_inPlan_1 rfl hl (by decide) rfl (fun ls hl => ?_)
  refine lv_iconst (v := 0) hx hb dX7_inPlan_2 (by decide) ?_
  refine lv_istore_n (lv' := [(3, .int 0), (2, .int 0), (0, .ref (ma 0)), (1, .int v)]) hx hb dX7_inPlan_3 rfl hl (by decide) rfl (fun ls hl => ?_)
  have lp4 : ∀ (n9 : Nat) (i : Nat), (i ≤ nL σ) → nL σ - i < n9 → ∀ (ls : Array Slot), lv_has ls 4 [(0, .ref (ma 0)), (1, .int v), (2, .int (sumF (fun j => if σ 20 j = v then 1 else 0) i)), (3, .int (nI i))] → W p la e ({ frames := 0, cells := 0, slots := 0, locals := 0 } : Room) s m ([.ref (ma 0), .int v] : List Value).toArray below meth c s.heap [] 0 0 (MQ below (QR (.returned (some (.int (f_inPlan σ v))))) ([.ref (ma 0), .int v] : List Value).toArray s 0 0 (fun _ => False)) (F0 m 4 ls []) := by
    intro n9_4
    induction n9_4 with
    | zero => intro i _ h9 ; exact absurd h9 (Nat.not_lt_zero _)
    | succ n9_4 ih_4 =>
      intro i hi h9 ls hl
      refine lv_iload_n hx hb dX7_inPlan_4 rfl (lv_at hl 3 rfl) ?_
      refine lv_aload_n hx hb dX7_inPlan_5 rfl (lv_at hl 0 rfl) ?_
      refine m_get (v := .int (σ 3 0)) hx hb hts hinX7 hown hK hM 3 (by decide) lk92 rfl dX7_inPlan_6 ?_
      refine lv_icmp_ge (tgt := 36) hx hb dX7_inPlan_9 (by decide) (fun c_1 => ?_) (fun c_1 => ?_)
      · replace c_1 := Int32.not_lt.mpr c_1
        have hi9 : i = nL σ := fn3_eq h3 hi c_1
        refine lv_iload_n hx hb dX7_inPlan_36 rfl (lv_at hl 2 rfl) ?_
        exact W.iret (v := (sumF (fun j => if σ 20 j = v then 1 else 0) i)) hx hb hr (fun t ht hW => ⟨congrArg (fun z => Outcome.returned (some (Value.int z))) (by first | rfl | (simp [-Int32.not_lt, -Int32.not_le, okL, okV, okO, okR, okD, isP, shP, f_inPlan, sumF, hi, c_1, hi9]; done) | (simp_all [-Int32.not_lt, -Int32.not_le, okL, okV, okO, okR, okD, isP, shP, f_inPlan, sumF]; done)), ht⟩) (fun _ h => nomatch h) dX7_inPlan_37
      · replace c_1 := Int32.not_le.mp c_1
        have hi1 : i < nL σ := fn3_lt h3 hi c_1
        have hLb : nL σ ≤ 24 := (h3.lt (by decide)).1
        refine lv_iload_n hx hb dX7_inPlan_12 rfl (lv_at hl 2 rfl) ?_
        refine lv_aload_n hx hb dX7_inPlan_13 rfl (lv_at hl 0 rfl) ?_
        refine m_get (v := .ref (ma 20)) hx hb hts hinX7 hown hK hM 20 (by decide) lk56 rfl dX7_inPlan_14 ?_
        refine lv_iload_n hx hb dX7_inPlan_17 rfl (lv_at hl 3 rfl) ?_
        refine m_iald (x := (σ 20 i)) hx hb hK hM 20 (by decide) rfl (i := (nI i)) (n := 24) (vin_mono (vin_nI hi1 (by omega)) hLb) (congrArg (σ 20) (ti_nI (by omega))) dX7_inPlan_18 ?_
        refine lv_iload_n hx hb dX7_inPlan_19 rfl (lv_at hl 1 rfl) ?_
        refine lv_icmp_ne (tgt := 27) hx hb dX7_inPlan_20 (by decide) (fun c_2 => ?_) (fun c_2 => ?_)
        · refine lv_iconst (v := 0) hx hb dX7_inPlan_27 (by decide) ?_
          refine lv_iadd hx hb dX7_inPlan_28 ?_
          refine lv_istore_n (lv' := [(2, .int ((sumF (fun j => if σ 20 j = v then 1 else 0) i) + 0)), (0, .ref (ma 0)), (1, .int v), (3, .int (nI i))]) hx hb dX7_inPlan_29 rfl hl (by decide) rfl (fun ls hl => ?_)
          refine lv_iinc (v := ((nI i) + 1)) (lv' := [(3, .int ((nI i) + 1)), (2, .int ((sumF (fun j => if σ 20 j = v then 1 else 0) i) + 0)), (0, .ref (ma 0)), (1, .int v)]) hx hb dX7_inPlan_30 hl (k := 3) rfl rfl (by decide) rfl (fun ls hl => ?_)
          refine lv_goto (tgt := 4) hx hb dX7_inPlan_33 (by decide) ?_
          have e_3 : ((sumF (fun j => if σ 20 j = v then 1 else 0) (i + 1)) : Int32) = ((sumF (fun j => if σ 20 j = v then 1 else 0) i) + 0) := (by first | rfl | (simp [-Int32.not_lt, -Int32.not_le, okL, okV, okO, okR, okD, isP, shP, f_inPlan, sumF, hi, c_1, c_2]; done) | (simp_all [-Int32.not_lt, -Int32.not_le, okL, okV, okO, okR, okD, isP, shP, f_inPlan, sumF]; done))
          have e_4 : ((nI (i + 1)) : Int32) = ((nI i) + 1) := (nI_1 i).symm
          have hl2 : lv_has ls 4 [(0, .ref (ma 0)), (1, .int v), (2, .int (sumF (fun j => if σ 20 j = v then 1 else 0) (i + 1))), (3, .int (nI (i + 1)))] := by
            rw [e_3, e_4]
            exact lv_sub hl [2, 3, 1, 0] rfl
          exact ih_4 (i + 1) (by omega) (by omega) ls hl2
        · refine lv_iconst (v := 1) hx hb dX7_inPlan_23 (by decide) ?_
          refine lv_goto (tgt := 28) hx hb dX7_inPlan_24 (by decide) ?_
          refine lv_iadd hx hb dX7_inPlan_28 ?_
          refine lv_istore_n (lv' := [(2, .int ((sumF (fun j => if σ 20 j = v then 1 else 0) i) + 1)), (0, .ref (ma 0)), (1, .int v), (3, .int (nI i))]) hx hb dX7_inPlan_29 rfl hl (by decide) rfl (fun ls hl => ?_)
          refine lv_iinc (v := ((nI i) + 1)) (lv' := [(3, .int ((nI i) + 1)), (2, .int ((sumF (fun j => if σ 20 j = v then 1 else 0) i) + 1)), (0, .ref (ma 0)), (1, .int v)]) hx hb dX7_inPlan_30 hl (k := 3) rfl rfl (by decide) rfl (fun ls hl => ?_)
          refine lv_goto (tgt := 4) hx hb dX7_inPlan_33 (by decide) ?_
          have e_5 : ((sumF (fun j => if σ 20 j = v then 1 else 0) (i + 1)) : Int32) = ((sumF (fun j => if σ 20 j = v then 1 else 0) i) + 1) := (by first | rfl | (simp [-Int32.not_lt, -Int32.not_le, okL, okV, okO, okR, okD, isP, shP, f_inPlan, sumF, hi, c_1, c_2]; done) | (simp_all [-Int32.not_lt, -Int32.not_le, okL, okV, okO, okR, okD, isP, shP, f_inPlan, sumF]; done))
          have e_6 : ((nI (i + 1)) : Int32) = ((nI i) + 1) := (nI_1 i).symm
          have hl2 : lv_has ls 4 [(0, .ref (ma 0)), (1, .int v), (2, .int (sumF (fun j => if σ 20 j = v then 1 else 0) (i + 1))), (3, .int (nI (i + 1)))] := by
            rw [e_5, e_6]
            exact lv_sub hl [2, 3, 1, 0] rfl
          exact ih_4 (i + 1) (by omega) (by omega) ls hl2
  have e_7 : ((sumF (fun j => if σ 20 j = v then 1 else 0) (0)) : Int32) = 0 := (by first | rfl | (simp [-Int32.not_lt, -Int32.not_le, okL, okV, okO, okR, okD, isP, shP, f_inPlan, sumF]; done) | (simp_all [-Int32.not_lt, -Int32.not_le, okL, okV, okO, okR, okD, isP, shP, f_inPlan, sumF]; done))
  have e_8 : ((nI (0)) : Int32) = 0 := (by first | rfl | (simp [-Int32.not_lt, -Int32.not_le, okL, okV, okO, okR, okD, isP, shP, f_inPlan, sumF]; done) | (simp_all [-Int32.not_lt, -Int32.not_le, okL, okV, okO, okR, okD, isP, shP, f_inPlan, sumF]; done))
  have hl2 : lv_has ls 4 [(0, .ref (ma 0)), (1, .int v), (2, .int (sumF (fun j => if σ 20 j = v then 1 else 0) (0))), (3, .int (nI (0)))] := by
    rw [e_7, e_8]
    exact lv_sub hl [2, 3, 1, 0] rfl
  exact lp4 (nL σ - 0 + 1) (0) (Nat.zero_le _) (Nat.lt_succ_self _) ls hl2
set_option maxHeartbeats 4000000 in
set_option maxRecDepth 100000 in
theorem k_off (la : Launch) (g : EG) (ma : Nat → Nat) (σ : Sg) (u : Nat → Int64) (l : Int32) (hI : INV σ) (kl : vp_in l (nL σ)) : Met la yX7_off wsX7_off ({ frames := 1, cells := 0, slots := 0, locals := 21 } : Room) (va_Pc [.ref (ma 0), .int l] (fun U => MR g ma σ u U.heap ∧ KK g U)) (QR (.returned (some (.int (f_off σ l))))) 0 0 (fun _ => False) := by
  refine Met.ofW (cc := cX7_off) (maxL := 3) (ret := (some .int)) (by decide) rfl ?_
  intro p e s m args below meth c s₁ B hml hv
  obtain ⟨rfl, hR0, hK⟩ := hv
  have hx := B.exec
  have hb := B.bytes
  have hr := B.returns
  have hts := atoms_spec (ws := wsX7_off) B.pre
  have hown : s.vm.findClass RX7 = some m.cls := findClass_of_methodNamed B.named
  have hlocks := B.notSynchronized
  have hM : MS g 0 ma σ u s.heap s.heap [] := MS.start hR0
  have hinX7 : ∀ w ∈ wsX70, w ∈ wsX7_off := by decide +kernel
  have lk26 := hts (.fieldLink RX7 26 "DyehouseLedgerModel" "recipe" "[I") (by decide +kernel)
  have lk38 := hts (.fieldLink RX7 38 "DyehouseLedgerModel" "order" "[I") (by decide +kernel)
  have lk44 := hts (.fieldLink RX7 44 "DyehouseLedgerModel" "out" "[I") (by decide +kernel)
  have lk7 := hts (.fieldLink RX7 7 "DyehouseLedgerModel" "shade" "[I") (by decide +kernel)
  have hl := lv_entry ([.ref (ma 0), .int l]) (n := 3) (Nat.le_of_ble_eq_true rfl)
  rw [lg_entry_eq]
  generalize (lg_sl ([.ref (ma 0), .int l]) ++ List.replicate (3 - (lg_sl ([.ref (ma 0), .int l])).length) Slot.unset).toArray = ls at hl ⊢
  have hl : lv_has ls 3 [(0, .ref (ma 0)), (1, .int l)] := hl
  refine lv_iconst (v := 3) hx hb dX7_off_0 (by decide) ?_
  refine lv_aload_n hx hb dX7_off_1 rfl (lv_at hl 0 rfl) ?_
  refine m_get (v := .ref (ma 10)) hx hb hts hinX7 hown hK hM 10 (by decide) lk26 rfl dX7_off_2 ?_
  refine lv_aload_n hx hb dX7_off_5 rfl (lv_at hl 0 rfl) ?_
  refine m_get (v := .ref (ma 14)) hx hb hts hinX7 hown hK hM 14 (by decide) lk38 rfl dX7_off_6 ?_
  refine lv_iload_n hx hb dX7_off_9 rfl (lv_at hl 1 rfl) ?_
  refine m_iald (x := (σ 14 (ti l))) hx hb hK hM 14 (by decide) rfl (i := l) (n := 24) (lot24 hI kl) rfl dX7_off_10 ?_
  refine m_iald (x := (σ 10 (ti (σ 14 (ti l))))) hx hb hK hM 10 (by decide) rfl (i := (σ 14 (ti l))) (n := 6) (od6 hI (ordO hI kl)) rfl dX7_off_11 ?_
  refine lv_imul hx hb dX7_off_12 ?_
  refine lv_istore_n (lv' := [(2, .int (3 * (σ 10 (ti (σ 14 (ti l)))))), (0, .ref (ma 0)), (1, .int l)]) hx hb dX7_off_13 rfl hl (by decide) rfl (fun ls hl => ?_)
  refine lv_aload_n hx hb dX7_off_14 rfl (lv_at hl 1 rfl) ?_
  refine m_get (v := .ref (ma 16)) hx hb hts hinX7 hown hK hM 16 (by decide) lk44 rfl dX7_off_15 ?_
  refine lv_iconst (v := 3) hx hb dX7_off_18 (by decide) ?_
  refine lv_iload_n hx hb dX7_off_19 rfl (lv_at hl 2 rfl) ?_
  refine lv_imul hx hb dX7_off_20 ?_
  refine m_iald (x := (σ 16 (ti (3 * l)))) hx hb hK hM 16 (by decide) rfl (i := (3 * l)) (n := 72) (vin_30 (lot24 hI kl) (by decide) (by decide)).1 rfl dX7_off_21 ?_
  refine lv_aload_n hx hb dX7_off_22 rfl (lv_at hl 1 rfl) ?_
  refine m_get (v := .ref (ma 5)) hx hb hts hinX7 hown hK hM 5 (by decide) lk7 rfl dX7_off_23 ?_
  refine lv_iload_n hx hb dX7_off_26 rfl (lv_at hl 0 rfl) ?_
  refine m_iald (x := (σ 5 (ti (3 * (σ 10 (ti (σ 14 (ti l)))))))) hx hb hK hM 5 (by decide) rfl (i := (3 * (σ 10 (ti (σ 14 (ti l)))))) (n := 24) (vin_30 (rec8 hI (recR hI (ordO hI kl))) (by decide) (by decide)).1 rfl dX7_off_27 ?_
  refine sc_ro (n := 2) (As := [.int (σ 16 (ti (3 * l))), .int (σ 5 (ti (3 * (σ 10 (ti (σ 14 (ti l)))))))]) (rest := []) (v := [.int (f_gap (σ 16 (ti (3 * l))) (σ 5 (ti (3 * (σ 10 (ti (σ 14 (ti l))))))))]) ⟨hx, hb, hml, hown, hts⟩ (k_gap la (σ 16 (ti (3 * l))) (σ 5 (ti (3 * (σ 10 (ti (σ 14 (ti l)))))))) gX7_off_X7_gap rfl rfl rfl (by decide +kernel) ⟨Nat.le_of_ble_eq_true rfl, Nat.le_of_ble_eq_true rfl⟩ rfl hl.1 rfl (Nat.le_of_ble_eq_true rfl) dX7_off_28 ⟨Nat.zero_le _, Nat.zero_le _⟩ rfl ?_
  refine lv_aload_n hx hb dX7_off_31 rfl (lv_at hl 1 rfl) ?_
  refine m_get (v := .ref (ma 16)) hx hb hts hinX7 hown hK hM 16 (by decide) lk44 rfl dX7_off_32 ?_
  refine lv_iconst (v := 3) hx hb dX7_off_35 (by decide) ?_
  refine lv_iload_n hx hb dX7_off_36 rfl (lv_at hl 2 rfl) ?_
  refine lv_imul hx hb dX7_off_37 ?_
  refine lv_iconst (v := 1) hx hb dX7_off_38 (by decide) ?_
  refine lv_iadd hx hb dX7_off_39 ?_
  refine m_iald (x := (σ 16 (ti ((3 * l) + 1)))) hx hb hK hM 16 (by decide) rfl (i := ((3 * l) + 1)) (n := 72) (vin_3 1 (lot24 hI kl) (by decide) (by decide) (by decide)).1 rfl dX7_off_40 ?_
  refine lv_aload_n hx hb dX7_off_41 rfl (lv_at hl 1 rfl) ?_
  refine m_get (v := .ref (ma 5)) hx hb hts hinX7 hown hK hM 5 (by decide) lk7 rfl dX7_off_42 ?_
  refine lv_iload_n hx hb dX7_off_45 rfl (lv_at hl 0 rfl) ?_
  refine lv_iconst (v := 1) hx hb dX7_off_46 (by decide) ?_
  refine lv_iadd hx hb dX7_off_47 ?_
  refine m_iald (x := (σ 5 (ti ((3 * (σ 10 (ti (σ 14 (ti l))))) + 1)))) hx hb hK hM 5 (by decide) rfl (i := ((3 * (σ 10 (ti (σ 14 (ti l))))) + 1)) (n := 24) (vin_3 1 (rec8 hI (recR hI (ordO hI kl))) (by decide) (by decide) (by decide)).1 rfl dX7_off_48 ?_
  refine sc_ro (n := 2) (As := [.int (σ 16 (ti ((3 * l) + 1))), .int (σ 5 (ti ((3 * (σ 10 (ti (σ 14 (ti l))))) + 1)))]) (rest := [.int (f_gap (σ 16 (ti (3 * l))) (σ 5 (ti (3 * (σ 10 (ti (σ 14 (ti l))))))))]) (v := [.int (f_gap (σ 16 (ti ((3 * l) + 1))) (σ 5 (ti ((3 * (σ 10 (ti (σ 14 (ti l))))) + 1))))]) ⟨hx, hb, hml, hown, hts⟩ (k_gap la (σ 16 (ti ((3 * l) + 1))) (σ 5 (ti ((3 * (σ 10 (ti (σ 14 (ti l))))) + 1)))) gX7_off_X7_gap rfl rfl rfl (by decide +kernel) ⟨Nat.le_of_ble_eq_true rfl, Nat.le_of_ble_eq_true rfl⟩ rfl hl.1 rfl (Nat.le_of_ble_eq_true rfl) dX7_off_49 ⟨Nat.zero_le _, Nat.zero_le _⟩ rfl ?_
  refine lv_iadd hx hb dX7_off_52 ?_
  refine lv_aload_n hx hb dX7_off_53 rfl (lv_at hl 1 rfl) ?_
  refine m_get (v := .ref (ma 16)) hx hb hts hinX7 hown hK hM 16 (by decide) lk44 rfl dX7_off_54 ?_
  refine lv_iconst (v := 3) hx hb dX7_off_57 (by decide) ?_
  refine lv_iload_n hx hb dX7_off_58 rfl (lv_at hl 2 rfl) ?_
  refine lv_imul hx hb dX7_off_59 ?_
  refine lv_iconst (v := 2) hx hb dX7_off_60 (by decide) ?_
  refine lv_iadd hx hb dX7_off_61 ?_
  refine m_iald (x := (σ 16 (ti ((3 * l) + 2)))) hx hb hK hM 16 (by decide) rfl (i := ((3 * l) + 2)) (n := 72) (vin_3 2 (lot24 hI kl) (by decide) (by decide) (by decide)).1 rfl dX7_off_62 ?_
  refine lv_aload_n hx hb dX7_off_63 rfl (lv_at hl 1 rfl) ?_
  refine m_get (v := .ref (ma 5)) hx hb hts hinX7 hown hK hM 5 (by decide) lk7 rfl dX7_off_64 ?_
  refine lv_iload_n hx hb dX7_off_67 rfl (lv_at hl 0 rfl) ?_
  refine lv_iconst (v := 2) hx hb dX7_off_68 (by decide) ?_
  refine lv_iadd hx hb dX7_off_69 ?_
  refine m_iald (x := (σ 5 (ti ((3 * (σ 10 (ti (σ 14 (ti l))))) + 2)))) hx hb hK hM 5 (by decide) rfl (i := ((3 * (σ 10 (ti (σ 14 (ti l))))) + 2)) (n := 24) (vin_3 2 (rec8 hI (recR hI (ordO hI kl))) (by decide) (by decide) (by decide)).1 rfl dX7_off_70 ?_
  refine sc_ro (n := 2) (As := [.int (σ 16 (ti ((3 * l) + 2))), .int (σ 5 (ti ((3 * (σ 10 (ti (σ 14 (ti l))))) + 2)))]) (rest := [.int ((f_gap (σ 16 (ti (3 * l))) (σ 5 (ti (3 * (σ 10 (ti (σ 14 (ti l)))))))) + (f_gap (σ 16 (ti ((3 * l) + 1))) (σ 5 (ti ((3 * (σ 10 (ti (σ 14 (ti l))))) + 1)))))]) (v := [.int (f_gap (σ 16 (ti ((3 * l) + 2))) (σ 5 (ti ((3 * (σ 10 (ti (σ 14 (ti l))))) + 2))))]) ⟨hx, hb, hml, hown, hts⟩ (k_gap la (σ 16 (ti ((3 * l) + 2))) (σ 5 (ti ((3 * (σ 10 (ti (σ 14 (ti l))))) + 2)))) gX7_off_X7_gap rfl rfl rfl (by decide +kernel) ⟨Nat.le_of_ble_eq_true rfl, Nat.le_of_ble_eq_true rfl⟩ rfl hl.1 rfl (Nat.le_of_ble_eq_true rfl) dX7_off_71 ⟨Nat.zero_le _, Nat.zero_le _⟩ rfl ?_
  refine lv_iadd hx hb dX7_off_74 ?_
  exact W.iret (v := (((f_gap (σ 16 (ti (3 * l))) (σ 5 (ti (3 * (σ 10 (ti (σ 14 (ti l)))))))) + (f_gap (σ 16 (ti ((3 * l) + 1))) (σ 5 (ti ((3 * (σ 10 (ti (σ 14 (ti l))))) + 1))))) + (f_gap (σ 16 (ti ((3 * l) + 2))) (σ 5 (ti ((3 * (σ 10 (ti (σ 14 (ti l))))) + 2)))))) hx hb hr (fun t ht hW => ⟨congrArg (fun z => Outcome.returned (some (Value.int z))) (by first | rfl | (simp [-Int32.not_lt, -Int32.not_le, okL, okV, okO, okR, okD, isP, shP]; done) | (simp_all [-Int32.not_lt, -Int32.not_le, okL, okV, okO, okR, okD, isP, shP]; done)), ht⟩) (fun _ h => nomatch h) dX7_off_75
set_option maxHeartbeats 4000000 in
set_option maxRecDepth 100000 in
theorem k_apart (la : Launch) (g : EG) (ma : Nat → Nat) (σ : Sg) (u : Nat → Int64) (l b : Int32) (hI : INV σ) (kl : vp_in l (nL σ)) (kb : vp_in b (nL σ)) : Met la yX7_apart wsX7_apart ({ frames := 1, cells := 0, slots := 0, locals := 21 } : Room) (va_Pc [.ref (ma 0), .int l, .int b] (fun U => MR g ma σ u U.heap ∧ KK g U)) (QR (.returned (some (.int (f_apart σ l b))))) 0 0 (fun _ => False) := by
  refine Met.ofW (cc := cX7_apart) (maxL := 3) (ret := (some .int)) (by decide) rfl ?_
  intro p e s m args below meth c s₁ B hml hv
  obtain ⟨rfl, hR0, hK⟩ := hv
  have hx := B.exec
  have hb := B.bytes
  have hr := B.returns
  have hts := atoms_spec (ws := wsX7_apart) B.pre
  have hown : s.vm.findClass RX7 = some m.cls := findClass_of_methodNamed B.named
  have hlocks := B.notSynchronized
  have hM : MS g 0 ma σ u s.heap s.heap [] := MS.start hR0
  have hinX7 : ∀ w ∈ wsX70, w ∈ wsX7_apart := by decide +kernel
  have lk44 := hts (.fieldLink RX7 44 "DyehouseLedgerModel" "out" "[I") (by decide +kernel)
  have hl := lv_entry ([.ref (ma 0), .int l, .int b]) (n := 3) (Nat.le_of_ble_eq_true rfl)
  rw [lg_entry_eq]
  generalize (lg_sl ([.ref (ma 0), .int l, .int b]) ++ List.replicate (3 - (lg_sl ([.ref (ma 0), .int l, .int b])).length) Slot.unset).toArray = ls at hl ⊢
  have hl : lv_has ls 3 [(0, .ref (ma 0)), (1, .int l), (2, .int b)] := hl
  refine lv_aload_n hx hb dX7_apart_0 rfl (lv_at hl 0 rfl) ?_
  refine m_get (v := .ref (ma 16)) hx hb hts hinX7 hown hK hM 16 (by decide) lk44 rfl dX7_apart_1 ?_
  refine lv_iconst (v := 3) hx hb dX7_apart_4 (by decide) ?_
  refine lv_iload_n hx hb dX7_apart_5 rfl (lv_at hl 1 rfl) ?_
  refine lv_imul hx hb dX7_apart_6 ?_
  refine m_iald (x := (σ 16 (ti (3 * l)))) hx hb hK hM 16 (by decide) rfl (i := (3 * l)) (n := 72) (vin_30 (lot24 hI kl) (by decide) (by decide)).1 rfl dX7_apart_7 ?_
  refine lv_aload_n hx hb dX7_apart_8 rfl (lv_at hl 0 rfl) ?_
  refine m_get (v := .ref (ma 16)) hx hb hts hinX7 hown hK hM 16 (by decide) lk44 rfl dX7_apart_9 ?_
  refine lv_iconst (v := 3) hx hb dX7_apart_12 (by decide) ?_
  refine lv_iload_n hx hb dX7_apart_13 rfl (lv_at hl 2 rfl) ?_
  refine lv_imul hx hb dX7_apart_14 ?_
  refine m_iald (x := (σ 16 (ti (3 * b)))) hx hb hK hM 16 (by decide) rfl (i := (3 * b)) (n := 72) (vin_30 (lot24 hI kb) (by decide) (by decide)).1 rfl dX7_apart_15 ?_
  refine sc_ro (n := 2) (As := [.int (σ 16 (ti (3 * l))), .int (σ 16 (ti (3 * b)))]) (rest := []) (v := [.int (f_gap (σ 16 (ti (3 * l))) (σ 16 (ti (3 * b))))]) ⟨hx, hb, hml, hown, hts⟩ (k_gap la (σ 16 (ti (3 * l))) (σ 16 (ti (3 * b)))) gX7_apart_X7_gap rfl rfl rfl (by decide +kernel) ⟨Nat.le_of_ble_eq_true rfl, Nat.le_of_ble_eq_true rfl⟩ rfl hl.1 rfl (Nat.le_of_ble_eq_true rfl) dX7_apart_16 ⟨Nat.zero_le _, Nat.zero_le _⟩ rfl ?_
  refine lv_aload_n hx hb dX7_apart_19 rfl (lv_at hl 0 rfl) ?_
  refine m_get (v := .ref (ma 16)) hx hb hts hinX7 hown hK hM 16 (by decide) lk44 rfl dX7_apart_20 ?_
  refine lv_iconst (v := 3) hx hb dX7_apart_23 (by decide) ?_
  refine lv_iload_n hx hb dX7_apart_24 rfl (lv_at hl 1 rfl) ?_
  refine lv_imul hx hb dX7_apart_25 ?_
  refine lv_iconst (v := 1) hx hb dX7_apart_26 (by decide) ?_
  refine lv_iadd hx hb dX7_apart_27 ?_
  refine m_iald (x := (σ 16 (ti ((3 * l) + 1)))) hx hb hK hM 16 (by decide) rfl (i := ((3 * l) + 1)) (n := 72) (vin_3 1 (lot24 hI kl) (by decide) (by decide) (by decide)).1 rfl dX7_apart_28 ?_
  refine lv_aload_n hx hb dX7_apart_29 rfl (lv_at hl 0 rfl) ?_
  refine m_get (v := .ref (ma 16)) hx hb hts hinX7 hown hK hM 16 (by decide) lk44 rfl dX7_apart_30 ?_
  refine lv_iconst (v := 3) hx hb dX7_apart_33 (by decide) ?_
  refine lv_iload_n hx hb dX7_apart_34 rfl (lv_at hl 2 rfl) ?_
  refine lv_imul hx hb dX7_apart_35 ?_
  refine lv_iconst (v := 1) hx hb dX7_apart_36 (by decide) ?_
  refine lv_iadd hx hb dX7_apart_37 ?_
  refine m_iald (x := (σ 16 (ti ((3 * b) + 1)))) hx hb hK hM 16 (by decide) rfl (i := ((3 * b) + 1)) (n := 72) (vin_3 1 (lot24 hI kb) (by decide) (by decide) (by decide)).1 rfl dX7_apart_38 ?_
  refine sc_ro (n := 2) (As := [.int (σ 16 (ti ((3 * l) + 1))), .int (σ 16 (ti ((3 * b) + 1)))]) (rest := [.int (f_gap (σ 16 (ti (3 * l))) (σ 16 (ti (3 * b))))]) (v := [.int (f_gap (σ 16 (ti ((3 * l) + 1))) (σ 16 (ti ((3 * b) + 1))))]) ⟨hx, hb, hml, hown, hts⟩ (k_gap la (σ 16 (ti ((3 * l) + 1))) (σ 16 (ti ((3 * b) + 1)))) gX7_apart_X7_gap rfl rfl rfl (by decide +kernel) ⟨Nat.le_of_ble_eq_true rfl, Nat.le_of_ble_eq_true rfl⟩ rfl hl.1 rfl (Nat.le_of_ble_eq_true rfl) dX7_apart_39 ⟨Nat.zero_le _, Nat.zero_le _⟩ rfl ?_
  refine lv_iadd hx hb dX7_apart_42 ?_
  refine lv_aload_n hx hb dX7_apart_43 rfl (lv_at hl 0 rfl) ?_
  refine m_get (v := .ref (ma 16)) hx hb hts hinX7 hown hK hM 16 (by decide) lk44 rfl dX7_apart_44 ?_
  refine lv_iconst (v := 3) hx hb dX7_apart_47 (by decide) ?_
  refine lv_iload_n hx hb dX7_apart_48 rfl (lv_at hl 1 rfl) ?_
  refine lv_imul hx hb dX7_apart_49 ?_
  refine lv_iconst (v := 2) hx hb dX7_apart_50 (by decide) ?_
  refine lv_iadd hx hb dX7_apart_51 ?_
  refine m_iald (x := (σ 16 (ti ((3 * l) + 2)))) hx hb hK hM 16 (by decide) rfl (i := ((3 * l) + 2)) (n := 72) (vin_3 2 (lot24 hI kl) (by decide) (by decide) (by decide)).1 rfl dX7_apart_52 ?_
  refine lv_aload_n hx hb dX7_apart_53 rfl (lv_at hl 0 rfl) ?_
  refine m_get (v := .ref (ma 16)) hx hb hts hinX7 hown hK hM 16 (by decide) lk44 rfl dX7_apart_54 ?_
  refine lv_iconst (v := 3) hx hb dX7_apart_57 (by decide) ?_
  refine lv_iload_n hx hb dX7_apart_58 rfl (lv_at hl 2 rfl) ?_
  refine lv_imul hx hb dX7_apart_59 ?_
  refine lv_iconst (v := 2) hx hb dX7_apart_60 (by decide) ?_
  refine lv_iadd hx hb dX7_apart_61 ?_
  refine m_iald (x := (σ 16 (ti ((3 * b) + 2)))) hx hb hK hM 16 (by decide) rfl (i := ((3 * b) + 2)) (n := 72) (vin_3 2 (lot24 hI kb) (by decide) (by decide) (by decide)).1 rfl dX7_apart_62 ?_
  refine sc_ro (n := 2) (As := [.int (σ 16 (ti ((3 * l) + 2))), .int (σ 16 (ti ((3 * b) + 2)))]) (rest := [.int ((f_gap (σ 16 (ti (3 * l))) (σ 16 (ti (3 * b)))) + (f_gap (σ 16 (ti ((3 * l) + 1))) (σ 16 (ti ((3 * b) + 1)))))]) (v := [.int (f_gap (σ 16 (ti ((3 * l) + 2))) (σ 16 (ti ((3 * b) + 2))))]) ⟨hx, hb, hml, hown, hts⟩ (k_gap la (σ 16 (ti ((3 * l) + 2))) (σ 16 (ti ((3 * b) + 2)))) gX7_apart_X7_gap rfl rfl rfl (by decide +kernel) ⟨Nat.le_of_ble_eq_true rfl, Nat.le_of_ble_eq_true rfl⟩ rfl hl.1 rfl (Nat.le_of_ble_eq_true rfl) dX7_apart_63 ⟨Nat.zero_le _, Nat.zero_le _⟩ rfl ?_
  refine lv_iadd hx hb dX7_apart_66 ?_
  exact W.iret (v := (((f_gap (σ 16 (ti (3 * l))) (σ 16 (ti (3 * b)))) + (f_gap (σ 16 (ti ((3 * l) + 1))) (σ 16 (ti ((3 * b) + 1))))) + (f_gap (σ 16 (ti ((3 * l) + 2))) (σ 16 (ti ((3 * b) + 2)))))) hx hb hr (fun t ht hW => ⟨congrArg (fun z => Outcome.returned (some (Value.int z))) (by first | rfl | (simp [-Int32.not_lt, -Int32.not_le, okL, okV, okO, okR, okD, isP, shP]; done) | (simp_all [-Int32.not_lt, -Int32.not_le, okL, okV, okO, okR, okD, isP, shP]; done)), ht⟩) (fun _ h => nomatch h) dX7_apart_67
set_option maxHeartbeats 4000000 in
set_option maxRecDepth 100000 in
theorem k_isAhead (la : Launch) (g : EG) (ma : Nat → Nat) (σ : Sg) (u : Nat → Int64) (l b : Int32) (hI : INV σ) (kl : vp_in l (nL σ)) (kb : vp_in b (nL σ)) : Met la yX7_isAhead wsX7_isAhead ({ frames := 0, cells := 0, slots := 0, locals := 0 } : Room) (va_Pc [.ref (ma 0), .int l, .int b] (fun U => MR g ma σ u U.heap ∧ KK g U)) (QR (.returned (some (.int (if b_ahead σ l b = true then 1 else 0))))) 0 0 (fun _ => False) := by
  refine Met.ofW (cc := cX7_isAhead) (maxL := 6) (ret := (some .boolean)) (by decide) rfl ?_
  intro p e s m args below meth c s₁ B hml hv
  obtain ⟨rfl, hR0, hK⟩ := hv
  have hx := B.exec
  have hb := B.bytes
  have hr := B.returns
  have hts := atoms_spec (ws := wsX7_isAhead) B.pre
  have hown : s.vm.findClass RX7 = some m.cls := findClass_of_methodNamed B.named
  have hlocks := B.notSynchronized
  have hM : MS g 0 ma σ u s.heap s.heap [] := MS.start hR0
  have hinX7 : ∀ w ∈ wsX70, w ∈ wsX7_isAhead := by decide +kernel
  have lk44 := hts (.fieldLink RX7 44 "DyehouseLedgerModel" "out" "[I") (by decide +kernel)
  have hl := lv_entry ([.ref (ma 0), .int l, .int b]) (n := 6) (Nat.le_of_ble_eq_true rfl)
  rw [lg_entry_eq]
  generalize (lg_sl ([.ref (ma 0), .int l, .int b]) ++ List.replicate (6 - (lg_sl ([.ref (ma 0), .int l, .int b])).length) Slot.unset).toArray = ls at hl ⊢
  have hl : lv_has ls 6 [(0, .ref (ma 0)), (1, .int l), (2, .int b)] := hl
  refine lv_iconst (v := 0) hx hb dX7_isAhead_0 (by decide) ?_
  refine lv_istore_n (lv' := [(3, .int 0), (0, .ref (ma 0)), (1, .int l), (2, .int b)]) hx hb dX7_isAhead_1 rfl hl (by decide) rfl (fun ls hl => ?_)
  refine lv_iload_n hx hb dX7_isAhead_2 rfl (lv_at hl 0 rfl) ?_
  refine lv_iconst (v := 3) hx hb dX7_isAhead_3 (by decide) ?_
  refine lv_icmp_ge (tgt := 76) hx hb dX7_isAhead_4 (by decide) (fun c_1 => ?_) (fun c_1 => ?_)
  · exact absurd c_1 (by decide)
  · replace c_1 := Int32.not_le.mp c_1
    refine lv_aload_n hx hb dX7_isAhead_7 rfl (lv_at hl 1 rfl) ?_
    refine m_get (v := .ref (ma 16)) hx hb hts hinX7 hown hK hM 16 (by decide) lk44 rfl dX7_isAhead_8 ?_
    refine lv_iconst (v := 3) hx hb dX7_isAhead_11 (by decide) ?_
    refine lv_iload_n hx hb dX7_isAhead_12 rfl (lv_at hl 2 rfl) ?_
    refine lv_imul hx hb dX7_isAhead_13 ?_
    refine lv_iload_n hx hb dX7_isAhead_14 rfl (lv_at hl 0 rfl) ?_
    refine lv_iadd hx hb dX7_isAhead_15 ?_
    refine m_iald (x := (σ 16 (ti ((3 * l) + 0)))) hx hb hK hM 16 (by decide) rfl (i := ((3 * l) + 0)) (n := 72) (vin_3 0 (lot24 hI kl) (by decide) (by decide) (by decide)).1 rfl dX7_isAhead_16 ?_
    refine lv_istore (lv' := [(4, .int (σ 16 (ti ((3 * l) + 0)))), (3, .int 0), (0, .ref (ma 0)), (1, .int l), (2, .int b)]) hx hb dX7_isAhead_17 hl (by decide) rfl (fun ls hl => ?_)
    refine lv_aload_n hx hb dX7_isAhead_19 rfl (lv_at hl 2 rfl) ?_
    refine m_get (v := .ref (ma 16)) hx hb hts hinX7 hown hK hM 16 (by decide) lk44 rfl dX7_isAhead_20 ?_
    refine lv_iconst (v := 3) hx hb dX7_isAhead_23 (by decide) ?_
    refine lv_iload_n hx hb dX7_isAhead_24 rfl (lv_at hl 4 rfl) ?_
    refine lv_imul hx hb dX7_isAhead_25 ?_
    refine lv_iload_n hx hb dX7_isAhead_26 rfl (lv_at hl 1 rfl) ?_
    refine lv_iadd hx hb dX7_isAhead_27 ?_
    refine m_iald (x := (σ 16 (ti ((3 * b) + 0)))) hx hb hK hM 16 (by decide) rfl (i := ((3 * b) + 0)) (n := 72) (vin_3 0 (lot24 hI kb) (by decide) (by decide) (by decide)).1 rfl dX7_isAhead_28 ?_
    refine lv_istore (lv' := [(5, .int (σ 16 (ti ((3 * b) + 0)))), (4, .int (σ 16 (ti ((3 * l) + 0)))), (3, .int 0), (0, .ref (ma 0)), (1, .int l), (2, .int b)]) hx hb dX7_isAhead_29 hl (by decide) rfl (fun ls hl => ?_)
    refine lv_iload hx hb dX7_isAhead_31 (lv_at hl 1 rfl) ?_
    refine lv_iload hx hb dX7_isAhead_33 (lv_at hl 0 rfl) ?_
    refine lv_icmp_eq (tgt := 70) hx hb dX7_isAhead_35 (by decide) (fun c_2 => ?_) (fun c_2 => ?_)
    · refine lv_iinc (v := 1) (lv' := [(3, .int 1), (5, .int (σ 16 (ti ((3 * b) + 0)))), (4, .int (σ 16 (ti ((3 * l) + 0)))), (0, .ref (ma 0)), (1, .int l), (2, .int b)]) hx hb dX7_isAhead_70 hl (k := 2) rfl (by decide) (by decide) rfl (fun ls hl => ?_)
      refine lv_goto (tgt := 2) hx hb dX7_isAhead_73 (by decide) ?_
      refine lv_iload_n hx hb dX7_isAhead_2 rfl (lv_at hl 0 rfl) ?_
      refine lv_iconst (v := 3) hx hb dX7_isAhead_3 (by decide) ?_
      refine lv_icmp_ge (tgt := 76) hx hb dX7_isAhead_4 (by decide) (fun c_3 => ?_) (fun c_3 => ?_)
      · exact absurd c_3 (by decide)
      · replace c_3 := Int32.not_le.mp c_3
        refine lv_aload_n hx hb dX7_isAhead_7 rfl (lv_at hl 3 rfl) ?_
        refine m_get (v := .ref (ma 16)) hx hb hts hinX7 hown hK hM 16 (by decide) lk44 rfl dX7_isAhead_8 ?_
        refine lv_iconst (v := 3) hx hb dX7_isAhead_11 (by decide) ?_
        refine lv_iload_n hx hb dX7_isAhead_12 rfl (lv_at hl 4 rfl) ?_
        refine lv_imul hx hb dX7_isAhead_13 ?_
        refine lv_iload_n hx hb dX7_isAhead_14 rfl (lv_at hl 0 rfl) ?_
        refine lv_iadd hx hb dX7_isAhead_15 ?_
        refine m_iald (x := (σ 16 (ti ((3 * l) + 1)))) hx hb hK hM 16 (by decide) rfl (i := ((3 * l) + 1)) (n := 72) (vin_3 1 (lot24 hI kl) (by decide) (by decide) (by decide)).1 rfl dX7_isAhead_16 ?_
        refine lv_istore (lv' := [(4, .int (σ 16 (ti ((3 * l) + 1)))), (3, .int 1), (5, .int (σ 16 (ti ((3 * b) + 0)))), (0, .ref (ma 0)), (1, .int l), (2, .int b)]) hx hb dX7_isAhead_17 hl (by decide) rfl (fun ls hl => ?_)
        refine lv_aload_n hx hb dX7_isAhead_19 rfl (lv_at hl 3 rfl) ?_
        refine m_get (v := .ref (ma 16)) hx hb hts hinX7 hown hK hM 16 (by decide) lk44 rfl dX7_isAhead_20 ?_
        refine lv_iconst (v := 3) hx hb dX7_isAhead_23 (by decide) ?_
        refine lv_iload_n hx hb dX7_isAhead_24 rfl (lv_at hl 5 rfl) ?_
        refine lv_imul hx hb dX7_isAhead_25 ?_
        refine lv_iload_n hx hb dX7_isAhead_26 rfl (lv_at hl 1 rfl) ?_
        refine lv_iadd hx hb dX7_isAhead_27 ?_
        refine m_iald (x := (σ 16 (ti ((3 * b) + 1)))) hx hb hK hM 16 (by decide) rfl (i := ((3 * b) + 1)) (n := 72) (vin_3 1 (lot24 hI kb) (by decide) (by decide) (by decide)).1 rfl dX7_isAhead_28 ?_
        refine lv_istore (lv' := [(5, .int (σ 16 (ti ((3 * b) + 1)))), (4, .int (σ 16 (ti ((3 * l) + 1)))), (3, .int 1), (0, .ref (ma 0)), (1, .int l), (2, .int b)]) hx hb dX7_isAhead_29 hl (by decide) rfl (fun ls hl => ?_)
        refine lv_iload hx hb dX7_isAhead_31 (lv_at hl 1 rfl) ?_
        refine lv_iload hx hb dX7_isAhead_33 (lv_at hl 0 rfl) ?_
        refine lv_icmp_eq (tgt := 70) hx hb dX7_isAhead_35 (by decide) (fun c_4 => ?_) (fun c_4 => ?_)
        · refine lv_iinc (v := 2) (lv' := [(3, .int 2), (5, .int (σ 16 (ti ((3 * b) + 1)))), (4, .int (σ 16 (ti ((3 * l) + 1)))), (0, .ref (ma 0)), (1, .int l), (2, .int b)]) hx hb dX7_isAhead_70 hl (k := 2) rfl (by decide) (by decide) rfl (fun ls hl => ?_)
          refine lv_goto (tgt := 2) hx hb dX7_isAhead_73 (by decide) ?_
          refine lv_iload_n hx hb dX7_isAhead_2 rfl (lv_at hl 0 rfl) ?_
          refine lv_iconst (v := 3) hx hb dX7_isAhead_3 (by decide) ?_
          refine lv_icmp_ge (tgt := 76) hx hb dX7_isAhead_4 (by decide) (fun c_5 => ?_) (fun c_5 => ?_)
          · exact absurd c_5 (by decide)
          · replace c_5 := Int32.not_le.mp c_5
            refine lv_aload_n hx hb dX7_isAhead_7 rfl (lv_at hl 3 rfl) ?_
            refine m_get (v := .ref (ma 16)) hx hb hts hinX7 hown hK hM 16 (by decide) lk44 rfl dX7_isAhead_8 ?_
            refine lv_iconst (v := 3) hx hb dX7_isAhead_11 (by decide) ?_
            refine lv_iload_n hx hb dX7_isAhead_12 rfl (lv_at hl 4 rfl) ?_
            refine lv_imul hx hb dX7_isAhead_13 ?_
            refine lv_iload_n hx hb dX7_isAhead_14 rfl (lv_at hl 0 rfl) ?_
            refine lv_iadd hx hb dX7_isAhead_15 ?_
            refine m_iald (x := (σ 16 (ti ((3 * l) + 2)))) hx hb hK hM 16 (by decide) rfl (i := ((3 * l) + 2)) (n := 72) (vin_3 2 (lot24 hI kl) (by decide) (by decide) (by decide)).1 rfl dX7_isAhead_16 ?_
            refine lv_istore (lv' := [(4, .int (σ 16 (ti ((3 * l) + 2)))), (3, .int 2), (5, .int (σ 16 (ti ((3 * b) + 1)))), (0, .ref (ma 0)), (1, .int l), (2, .int b)]) hx hb dX7_isAhead_17 hl (by decide) rfl (fun ls hl => ?_)
            refine lv_aload_n hx hb dX7_isAhead_19 rfl (lv_at hl 3 rfl) ?_
            refine m_get (v := .ref (ma 16)) hx hb hts hinX7 hown hK hM 16 (by decide) lk44 rfl dX7_isAhead_20 ?_
            refine lv_iconst (v := 3) hx hb dX7_isAhead_23 (by decide) ?_
            refine lv_iload_n hx hb dX7_isAhead_24 rfl (lv_at hl 5 rfl) ?_
            refine lv_imul hx hb dX7_isAhead_25 ?_
            refine lv_iload_n hx hb dX7_isAhead_26 rfl (lv_at hl 1 rfl) ?_
            refine lv_iadd hx hb dX7_isAhead_27 ?_
            refine m_iald (x := (σ 16 (ti ((3 * b) + 2)))) hx hb hK hM 16 (by decide) rfl (i := ((3 * b) + 2)) (n := 72) (vin_3 2 (lot24 hI kb) (by decide) (by decide) (by decide)).1 rfl dX7_isAhead_28 ?_
            refine lv_istore (lv' := [(5, .int (σ 16 (ti ((3 * b) + 2)))), (4, .int (σ 16 (ti ((3 * l) + 2)))), (3, .int 2), (0, .ref (ma 0)), (1, .int l), (2, .int b)]) hx hb dX7_isAhead_29 hl (by decide) rfl (fun ls hl => ?_)
            refine lv_iload hx hb dX7_isAhead_31 (lv_at hl 1 rfl) ?_
            refine lv_iload hx hb dX7_isAhead_33 (lv_at hl 0 rfl) ?_
            refine lv_icmp_eq (tgt := 70) hx hb dX7_isAhead_35 (by decide) (fun c_6 => ?_) (fun c_6 => ?_)
            · refine lv_iinc (v := 3) (lv' := [(3, .int 3), (5, .int (σ 16 (ti ((3 * b) + 2)))), (4, .int (σ 16 (ti ((3 * l) + 2)))), (0, .ref (ma 0)), (1, .int l), (2, .int b)]) hx hb dX7_isAhead_70 hl (k := 2) rfl (by decide) (by decide) rfl (fun ls hl => ?_)
              refine lv_goto (tgt := 2) hx hb dX7_isAhead_73 (by decide) ?_
              refine lv_iload_n hx hb dX7_isAhead_2 rfl (lv_at hl 0 rfl) ?_
              refine lv_iconst (v := 3) hx hb dX7_isAhead_3 (by decide) ?_
              refine lv_icmp_ge (tgt := 76) hx hb dX7_isAhead_4 (by decide) (fun c_7 => ?_) (fun c_7 => ?_)
              · replace c_7 := Int32.not_lt.mpr c_7
                refine lv_iload_n hx hb dX7_isAhead_76 rfl (lv_at hl 4 rfl) ?_
                refine lv_iload_n hx hb dX7_isAhead_77 rfl (lv_at hl 5 rfl) ?_
                refine lv_icmp_ge (tgt := 85) hx hb dX7_isAhead_78 (by decide) (fun c_8 => ?_) (fun c_8 => ?_)
                · replace c_8 := Int32.not_lt.mpr c_8
                  refine lv_iconst (v := 0) hx hb dX7_isAhead_85 (by decide) ?_
                  exact W.zret (v := 0) hx hb hr rfl (fun t ht hW => ⟨congrArg (fun z => Outcome.returned (some (Value.int z))) (by first | rfl | (simp [-Int32.not_lt, -Int32.not_le, okL, okV, okO, okR, okD, isP, shP, b_ahead, c_1, c_2, c_3, c_4, c_5, c_6, c_7, c_8]; done) | (simp_all [-Int32.not_lt, -Int32.not_le, okL, okV, okO, okR, okD, isP, shP, b_ahead]; done)), ht⟩) (fun _ h => nomatch h) dX7_isAhead_86
                · replace c_8 := Int32.not_le.mp c_8
                  refine lv_iconst (v := 1) hx hb dX7_isAhead_81 (by decide) ?_
                  refine lv_goto (tgt := 86) hx hb dX7_isAhead_82 (by decide) ?_
                  exact W.zret (v := 1) hx hb hr rfl (fun t ht hW => ⟨congrArg (fun z => Outcome.returned (some (Value.int z))) (by first | rfl | (simp [-Int32.not_lt, -Int32.not_le, okL, okV, okO, okR, okD, isP, shP, b_ahead, c_1, c_2, c_3, c_4, c_5, c_6, c_7, c_8]; done) | (simp_all [-Int32.not_lt, -Int32.not_le, okL, okV, okO, okR, okD, isP, shP, b_ahead]; done)), ht⟩) (fun _ h => nomatch h) dX7_isAhead_86
              · exact absurd c_7 (by decide)
            · refine lv_iload_n hx hb dX7_isAhead_38 rfl (lv_at hl 2 rfl) ?_
              refine lv_if_ne (tgt := 57) hx hb dX7_isAhead_39 (by decide) (fun c_9 => ?_) (fun c_9 => ?_)
              · refine lv_iload hx hb dX7_isAhead_57 (lv_at hl 1 rfl) ?_
                refine lv_iload hx hb dX7_isAhead_59 (lv_at hl 0 rfl) ?_
                refine lv_icmp_ge (tgt := 68) hx hb dX7_isAhead_61 (by decide) (fun c_10 => ?_) (fun c_10 => ?_)
                · replace c_10 := Int32.not_lt.mpr c_10
                  refine lv_iconst (v := 0) hx hb dX7_isAhead_68 (by decide) ?_
                  exact W.zret (v := 0) hx hb hr rfl (fun t ht hW => ⟨congrArg (fun z => Outcome.returned (some (Value.int z))) (by first | rfl | (simp [-Int32.not_lt, -Int32.not_le, okL, okV, okO, okR, okD, isP, shP, b_ahead, c_1, c_2, c_3, c_4, c_5, c_6, c_9, c_10]; done) | (simp_all [-Int32.not_lt, -Int32.not_le, okL, okV, okO, okR, okD, isP, shP, b_ahead]; done)), ht⟩) (fun _ h => nomatch h) dX7_isAhead_69
                · replace c_10 := Int32.not_le.mp c_10
                  refine lv_iconst (v := 1) hx hb dX7_isAhead_64 (by decide) ?_
                  refine lv_goto (tgt := 69) hx hb dX7_isAhead_65 (by decide) ?_
                  exact W.zret (v := 1) hx hb hr rfl (fun t ht hW => ⟨congrArg (fun z => Outcome.returned (some (Value.int z))) (by first | rfl | (simp [-Int32.not_lt, -Int32.not_le, okL, okV, okO, okR, okD, isP, shP, b_ahead, c_1, c_2, c_3, c_4, c_5, c_6, c_9, c_10]; done) | (simp_all [-Int32.not_lt, -Int32.not_le, okL, okV, okO, okR, okD, isP, shP, b_ahead]; done)), ht⟩) (fun _ h => nomatch h) dX7_isAhead_69
              · exact absurd c_9 (by decide)
        · refine lv_iload_n hx hb dX7_isAhead_38 rfl (lv_at hl 2 rfl) ?_
          refine lv_if_ne (tgt := 57) hx hb dX7_isAhead_39 (by decide) (fun c_11 => ?_) (fun c_11 => ?_)
          · refine lv_iload hx hb dX7_isAhead_57 (lv_at hl 1 rfl) ?_
            refine lv_iload hx hb dX7_isAhead_59 (lv_at hl 0 rfl) ?_
            refine lv_icmp_ge (tgt := 68) hx hb dX7_isAhead_61 (by decide) (fun c_12 => ?_) (fun c_12 => ?_)
            · replace c_12 := Int32.not_lt.mpr c_12
              refine lv_iconst (v := 0) hx hb dX7_isAhead_68 (by decide) ?_
              exact W.zret (v := 0) hx hb hr rfl (fun t ht hW => ⟨congrArg (fun z => Outcome.returned (some (Value.int z))) (by first | rfl | (simp [-Int32.not_lt, -Int32.not_le, okL, okV, okO, okR, okD, isP, shP, b_ahead, c_1, c_2, c_3, c_4, c_11, c_12]; done) | (simp_all [-Int32.not_lt, -Int32.not_le, okL, okV, okO, okR, okD, isP, shP, b_ahead]; done)), ht⟩) (fun _ h => nomatch h) dX7_isAhead_69
            · replace c_12 := Int32.not_le.mp c_12
              refine lv_iconst (v := 1) hx hb dX7_isAhead_64 (by decide) ?_
              refine lv_goto (tgt := 69) hx hb dX7_isAhead_65 (by decide) ?_
              exact W.zret (v := 1) hx hb hr rfl (fun t ht hW => ⟨congrArg (fun z => Outcome.returned (some (Value.int z))) (by first | rfl | (simp [-Int32.not_lt, -Int32.not_le, okL, okV, okO, okR, okD, isP, shP, b_ahead, c_1, c_2, c_3, c_4, c_11, c_12]; done) | (simp_all [-Int32.not_lt, -Int32.not_le, okL, okV, okO, okR, okD, isP, shP, b_ahead]; done)), ht⟩) (fun _ h => nomatch h) dX7_isAhead_69
          · exact absurd c_11 (by decide)
    · refine lv_iload_n hx hb dX7_isAhead_38 rfl (lv_at hl 2 rfl) ?_
      refine lv_if_ne (tgt := 57) hx hb dX7_isAhead_39 (by decide) (fun c_13 => ?_) (fun c_13 => ?_)
      · exact absurd c_13 (by decide)
      · refine lv_iload hx hb dX7_isAhead_42 (lv_at hl 1 rfl) ?_
        refine lv_iload hx hb dX7_isAhead_44 (lv_at hl 0 rfl) ?_
        refine lv_icmp_le (tgt := 53) hx hb dX7_isAhead_46 (by decide) (fun c_14 => ?_) (fun c_14 => ?_)
        · replace c_14 := Int32.not_lt.mpr c_14
          refine lv_iconst (v := 0) hx hb dX7_isAhead_53 (by decide) ?_
          refine lv_goto (tgt := 69) hx hb dX7_isAhead_54 (by decide) ?_
          exact W.zret (v := 0) hx hb hr rfl (fun t ht hW => ⟨congrArg (fun z => Outcome.returned (some (Value.int z))) (by first | rfl | (simp [-Int32.not_lt, -Int32.not_le, okL, okV, okO, okR, okD, isP, shP, b_ahead, c_1, c_2, c_13, c_14]; done) | (simp_all [-Int32.not_lt, -Int32.not_le, okL, okV, okO, okR, okD, isP, shP, b_ahead]; done)), ht⟩) (fun _ h => nomatch h) dX7_isAhead_69
        · replace c_14 := Int32.not_le.mp c_14
          refine lv_iconst (v := 1) hx hb dX7_isAhead_49 (by decide) ?_
          refine lv_goto (tgt := 69) hx hb dX7_isAhead_50 (by decide) ?_
          exact W.zret (v := 1) hx hb hr rfl (fun t ht hW => ⟨congrArg (fun z => Outcome.returned (some (Value.int z))) (by first | rfl | (simp [-Int32.not_lt, -Int32.not_le, okL, okV, okO, okR, okD, isP, shP, b_ahead, c_1, c_2, c_13, c_14]; done) | (simp_all [-Int32.not_lt, -Int32.not_le, okL, okV, okO, okR, okD, isP, shP, b_ahead]; done)), ht⟩) (fun _ h => nomatch h) dX7_isAhead_69
set_option maxHeartbeats 4000000 in
set_option maxRecDepth 100000 in
theorem k_lotAt (la : Launch) (g : EG) (ma : Nat → Nat) (σ : Sg) (u : Nat → Int64) (v place : Int32) (h3 : CN σ 3 24) : Met la yX7_lotAt wsX7_lotAt ({ frames := 0, cells := 0, slots := 0, locals := 0 } : Room) (va_Pc [.ref (ma 0), .int v, .int place] (fun U => MR g ma σ u U.heap ∧ KK g U)) (QR (.returned (some (.int (f_lotAt σ v place))))) 0 0 (fun _ => False) := by
  refine Met.ofW (cc := cX7_lotAt) (maxL := 5) (ret := (some .int)) (by decide) rfl ?_
  intro p e s m args below meth c s₁ B hml hv
  obtain ⟨rfl, hR0, hK⟩ := hv
  have hx := B.exec
  have hb := B.bytes
  have hr := B.returns
  have hts := atoms_spec (ws := wsX7_lotAt) B.pre
  have hown : s.vm.findClass RX7 = some m.cls := findClass_of_methodNamed B.named
  have hlocks := B.notSynchronized
  have hM : MS g 0 ma σ u s.heap s.heap [] := MS.start hR0
  have hinX7 : ∀ w ∈ wsX70, w ∈ wsX7_lotAt := by decide +kernel
  have lk56 := hts (.fieldLink RX7 56 "DyehouseLedgerModel" "plan" "[I") (by decide +kernel)
  have lk92 := hts (.fieldLink RX7 92 "DyehouseLedgerModel" "lots" "I") (by decide +kernel)
  have hl := lv_entry ([.ref (ma 0), .int v, .int place]) (n := 5) (Nat.le_of_ble_eq_true rfl)
  rw [lg_entry_eq]
  generalize (lg_sl ([.ref (ma 0), .int v, .int place]) ++ List.replicate (5 - (lg_sl ([.ref (ma 0), .int v, .int place])).length) Slot.unset).toArray = ls at hl ⊢
  have hl : lv_has ls 5 [(0, .ref (ma 0)), (1, .int v), (2, .int place)] := hl
  refine lv_iconst (v := 0) hx hb dX7_lotAt_0 (by decide) ?_
  refine lv_istore_n (lv' := [(3, .int 0), (0, .ref (ma 0)), (1, .int v), (2, .int place)]) hx hb dX7_lotAt_1 rfl hl (by decide) rfl (fun ls hl => ?_)
  refine lv_iconst (v := 0) hx hb dX7_lotAt_2 (by decide) ?_
  refine lv_istore (lv' := [(4, .int 0), (3, .int 0), (0, .ref (ma 0)), (1, .int v), (2, .int place)]) hx hb dX7_lotAt_3 hl (by decide) rfl (fun ls hl => ?_)
  have lp5 : ∀ (n9 : Nat) (i : Nat), (i ≤ nL σ) → (f_lotAt σ v place = lotAtF σ v place (nL σ - i) i) → nL σ - i < n9 → ∀ (ls : Array Slot), lv_has ls 5 [(0, .ref (ma 0)), (1, .int v), (2, .int place), (3, .int (sumF (fun j => if σ 20 j = v then 1 else 0) i)), (4, .int (nI i))] → W p la e ({ frames := 0, cells := 0, slots := 0, locals := 0 } : Room) s m ([.ref (ma 0), .int v, .int place] : List Value).toArray below meth c s.heap [] 0 0 (MQ below (QR (.returned (some (.int (f_lotAt σ v place))))) ([.ref (ma 0), .int v, .int place] : List Value).toArray s 0 0 (fun _ => False)) (F0 m 5 ls []) := by
    intro n9_5
    induction n9_5 with
    | zero => intro i _ _ h9 ; exact absurd h9 (Nat.not_lt_zero _)
    | succ n9_5 ih_5 =>
      intro i hi hT h9 ls hl
      refine lv_iload hx hb dX7_lotAt_5 (lv_at hl 4 rfl) ?_
      refine lv_aload_n hx hb dX7_lotAt_7 rfl (lv_at hl 0 rfl) ?_
      refine m_get (v := .int (σ 3 0)) hx hb hts hinX7 hown hK hM 3 (by decide) lk92 rfl dX7_lotAt_8 ?_
      refine lv_icmp_ge (tgt := 45) hx hb dX7_lotAt_11 (by decide) (fun c_1 => ?_) (fun c_1 => ?_)
      · replace c_1 := Int32.not_lt.mpr c_1
        have hi9 : i = nL σ := fn3_eq h3 hi c_1
        refine lv_iconst (v := (-1)) hx hb dX7_lotAt_45 (by decide) ?_
        exact W.iret (v := (-1)) hx hb hr (fun t ht hW => ⟨congrArg (fun z => Outcome.returned (some (Value.int z))) (by first | exact (hT.trans (lotAtF_e hi1 (by assumption) (by assumption))).symm | (rw [hT, hi9, Nat.sub_self]; rfl)), ht⟩) (fun _ h => nomatch h) dX7_lotAt_46
      · replace c_1 := Int32.not_le.mp c_1
        have hi1 : i < nL σ := fn3_lt h3 hi c_1
        have hLb : nL σ ≤ 24 := (h3.lt (by decide)).1
        refine lv_aload_n hx hb dX7_lotAt_14 rfl (lv_at hl 0 rfl) ?_
        refine m_get (v := .ref (ma 20)) hx hb hts hinX7 hown hK hM 20 (by decide) lk56 rfl dX7_lotAt_15 ?_
        refine lv_iload hx hb dX7_lotAt_18 (lv_at hl 4 rfl) ?_
        refine m_iald (x := (σ 20 i)) hx hb hK hM 20 (by decide) rfl (i := (nI i)) (n := 24) (vin_mono (vin_nI hi1 (by omega)) hLb) (congrArg (σ 20) (ti_nI (by omega))) dX7_lotAt_20 ?_
        refine lv_iload_n hx hb dX7_lotAt_21 rfl (lv_at hl 1 rfl) ?_
        refine lv_icmp_eq (tgt := 28) hx hb dX7_lotAt_22 (by decide) (fun c_2 => ?_) (fun c_2 => ?_)
        · refine lv_iload_n hx hb dX7_lotAt_28 rfl (lv_at hl 3 rfl) ?_
          refine lv_iload_n hx hb dX7_lotAt_29 rfl (lv_at hl 2 rfl) ?_
          refine lv_icmp_ne (tgt := 36) hx hb dX7_lotAt_30 (by decide) (fun c_3 => ?_) (fun c_3 => ?_)
          · refine lv_iinc (v := ((sumF (fun j => if σ 20 j = v then 1 else 0) i) + 1)) (lv' := [(3, .int ((sumF (fun j => if σ 20 j = v then 1 else 0) i) + 1)), (0, .ref (ma 0)), (1, .int v), (2, .int place), (4, .int (nI i))]) hx hb dX7_lotAt_36 hl (k := 3) rfl rfl (by decide) rfl (fun ls hl => ?_)
            refine lv_iinc (v := ((nI i) + 1)) (lv' := [(4, .int ((nI i) + 1)), (3, .int ((sumF (fun j => if σ 20 j = v then 1 else 0) i) + 1)), (0, .ref (ma 0)), (1, .int v), (2, .int place)]) hx hb dX7_lotAt_39 hl (k := 4) rfl rfl (by decide) rfl (fun ls hl => ?_)
            refine lv_goto (tgt := 5) hx hb dX7_lotAt_42 (by decide) ?_
            have e_4 : ((sumF (fun j => if σ 20 j = v then 1 else 0) (i + 1)) : Int32) = ((sumF (fun j => if σ 20 j = v then 1 else 0) i) + 1) := (by first | rfl | (simp [-Int32.not_lt, -Int32.not_le, okL, okV, okO, okR, okD, isP, shP, sumF, hi, hT, c_1, c_2, c_3]; done) | (simp_all [-Int32.not_lt, -Int32.not_le, okL, okV, okO, okR, okD, isP, shP, sumF]; done))
            have e_5 : ((nI (i + 1)) : Int32) = ((nI i) + 1) := (nI_1 i).symm
            have hl2 : lv_has ls 5 [(0, .ref (ma 0)), (1, .int v), (2, .int place), (3, .int (sumF (fun j => if σ 20 j = v then 1 else 0) (i + 1))), (4, .int (nI (i + 1)))] := by
              rw [e_4, e_5]
              exact lv_sub hl [2, 3, 4, 1, 0] rfl
            exact ih_5 (i + 1) (by omega) (hT.trans (by first | exact lotAtF_c hi1 (by assumption) | exact lotAtF_d hi1 (by assumption) (by assumption))) (by omega) ls hl2
          · refine lv_iload hx hb dX7_lotAt_33 (lv_at hl 4 rfl) ?_
            exact W.iret (v := (nI i)) hx hb hr (fun t ht hW => ⟨congrArg (fun z => Outcome.returned (some (Value.int z))) (by first | exact (hT.trans (lotAtF_e hi1 (by assumption) (by assumption))).symm | (rw [hT, hi9, Nat.sub_self]; rfl)), ht⟩) (fun _ h => nomatch h) dX7_lotAt_35
        · refine lv_goto (tgt := 39) hx hb dX7_lotAt_25 (by decide) ?_
          refine lv_iinc (v := ((nI i) + 1)) (lv' := [(4, .int ((nI i) + 1)), (0, .ref (ma 0)), (1, .int v), (2, .int place), (3, .int (sumF (fun j => if σ 20 j = v then 1 else 0) i))]) hx hb dX7_lotAt_39 hl (k := 4) rfl rfl (by decide) rfl (fun ls hl => ?_)
          refine lv_goto (tgt := 5) hx hb dX7_lotAt_42 (by decide) ?_
          have e_6 : ((sumF (fun j => if σ 20 j = v then 1 else 0) (i + 1)) : Int32) = (sumF (fun j => if σ 20 j = v then 1 else 0) i) := (by first | rfl | (simp [-Int32.not_lt, -Int32.not_le, okL, okV, okO, okR, okD, isP, shP, sumF, hi, hT, c_1, c_2]; done) | (simp_all [-Int32.not_lt, -Int32.not_le, okL, okV, okO, okR, okD, isP, shP, sumF]; done))
          have e_7 : ((nI (i + 1)) : Int32) = ((nI i) + 1) := (nI_1 i).symm
          have hl2 : lv_has ls 5 [(0, .ref (ma 0)), (1, .int v), (2, .int place), (3, .int (sumF (fun j => if σ 20 j = v then 1 else 0) (i + 1))), (4, .int (nI (i + 1)))] := by
            rw [e_6, e_7]
            exact lv_sub hl [1, 2, 3, 4, 0] rfl
          exact ih_5 (i + 1) (by omega) (hT.trans (by first | exact lotAtF_c hi1 (by assumption) | exact lotAtF_d hi1 (by assumption) (by assumption))) (by omega) ls hl2
  have e_8 : ((sumF (fun j => if σ 20 j = v then 1 else 0) (0)) : Int32) = 0 := (by first | rfl | (simp [-Int32.not_lt, -Int32.not_le, okL, okV, okO, okR, okD, isP, shP, sumF]; done) | (simp_all [-Int32.not_lt, -Int32.not_le, okL, okV, okO, okR, okD, isP, shP, sumF]; done))
  have e_9 : ((nI (0)) : Int32) = 0 := (by first | rfl | (simp [-Int32.not_lt, -Int32.not_le, okL, okV, okO, okR, okD, isP, shP, sumF]; done) | (simp_all [-Int32.not_lt, -Int32.not_le, okL, okV, okO, okR, okD, isP, shP, sumF]; done))
  have hl2 : lv_has ls 5 [(0, .ref (ma 0)), (1, .int v), (2, .int place), (3, .int (sumF (fun j => if σ 20 j = v then 1 else 0) (0))), (4, .int (nI (0)))] := by
    rw [e_8, e_9]
    exact lv_sub hl [2, 3, 4, 1, 0] rfl
  exact lp5 (nL σ - 0 + 1) (0) (Nat.zero_le _) rfl (Nat.lt_succ_self _) ls hl2
set_option maxHeartbeats 4000000 in
set_option maxRecDepth 100000 in
theorem k_late (la : Launch) (g : EG) (ma : Nat → Nat) (σ : Sg) (u : Nat → Int64) (o : Int32) (hI : INV σ) (ko : vp_in o (nO σ)) : Met la yX7_late wsX7_late ({ frames := 0, cells := 0, slots := 0, locals := 0 } : Room) (va_Pc [.ref (ma 0), .int o] (fun U => MR g ma σ u U.heap ∧ KK g U)) (QR (.returned (some (.int (f_late σ o))))) 0 0 (fun _ => False) := by
  refine Met.ofW (cc := cX7_late) (maxL := 4) (ret := (some .int)) (by decide) rfl ?_
  intro p e s m args below meth c s₁ B hml hv
  obtain ⟨rfl, hR0, hK⟩ := hv
  have hx := B.exec
  have hb := B.bytes
  have hr := B.returns
  have hts := atoms_spec (ws := wsX7_late) B.pre
  have hown : s.vm.findClass RX7 = some m.cls := findClass_of_methodNamed B.named
  have hlocks := B.notSynchronized
  have hM : MS g 0 ma σ u s.heap s.heap [] := MS.start hR0
  have hinX7 : ∀ w ∈ wsX70, w ∈ wsX7_late := by decide +kernel
  have lk32 := hts (.fieldLink RX7 32 "DyehouseLedgerModel" "day" "[I") (by decide +kernel)
  have lk38 := hts (.fieldLink RX7 38 "DyehouseLedgerModel" "order" "[I") (by decide +kernel)
  have lk50 := hts (.fieldLink RX7 50 "DyehouseLedgerModel" "at" "[I") (by decide +kernel)
  have lk59 := hts (.fieldLink RX7 59 "DyehouseLedgerModel" "state" "[C") (by decide +kernel)
  have lk92 := hts (.fieldLink RX7 92 "DyehouseLedgerModel" "lots" "I") (by decide +kernel)
  have hl := lv_entry ([.ref (ma 0), .int o]) (n := 4) (Nat.le_of_ble_eq_true rfl)
  rw [lg_entry_eq]
  generalize (lg_sl ([.ref (ma 0), .int o]) ++ List.replicate (4 - (lg_sl ([.ref (ma 0), .int o])).length) Slot.unset).toArray = ls at hl ⊢
  have hl : lv_has ls 4 [(0, .ref (ma 0)), (1, .int o)] := hl
  refine lv_iconst (v := 0) hx hb dX7_late_0 (by decide) ?_
  refine lv_istore_n (lv' := [(2, .int 0), (0, .ref (ma 0)), (1, .int o)]) hx hb dX7_late_1 rfl hl (by decide) rfl (fun ls hl => ?_)
  refine lv_iconst (v := 0) hx hb dX7_late_2 (by decide) ?_
  refine lv_istore_n (lv' := [(3, .int 0), (2, .int 0), (0, .ref (ma 0)), (1, .int o)]) hx hb dX7_late_3 rfl hl (by decide) rfl (fun ls hl => ?_)
  have lp4 : ∀ (n9 : Nat) (i : Nat), (i ≤ nL σ) → nL σ - i < n9 → ∀ (ls : Array Slot), lv_has ls 4 [(0, .ref (ma 0)), (1, .int o), (2, .int (lastF σ o i)), (3, .int (nI i))] → W p la e ({ frames := 0, cells := 0, slots := 0, locals := 0 } : Room) s m ([.ref (ma 0), .int o] : List Value).toArray below meth c s.heap [] 0 0 (MQ below (QR (.returned (some (.int (f_late σ o))))) ([.ref (ma 0), .int o] : List Value).toArray s 0 0 (fun _ => False)) (F0 m 4 ls []) := by
    intro n9_4
    induction n9_4 with
    | zero => intro i _ h9 ; exact absurd h9 (Nat.not_lt_zero _)
    | succ n9_4 ih_4 =>
      intro i hi h9 ls hl
      refine lv_iload_n hx hb dX7_late_4 rfl (lv_at hl 3 rfl) ?_
      refine lv_aload_n hx hb dX7_late_5 rfl (lv_at hl 0 rfl) ?_
      refine m_get (v := .int (σ 3 0)) hx hb hts hinX7 hown hK hM 3 (by decide) lk92 rfl dX7_late_6 ?_
      refine lv_icmp_ge (tgt := 56) hx hb dX7_late_9 (by decide) (fun c_1 => ?_) (fun c_1 => ?_)
      · replace c_1 := Int32.not_lt.mpr c_1
        have hi9 : i = nL σ := fnd_eq hI hi c_1
        refine lv_iload_n hx hb dX7_late_56 rfl (lv_at hl 2 rfl) ?_
        refine lv_bipush (v := 24) hx hb dX7_late_57 (by decide) ?_
        refine lv_idiv hx hb dX7_late_59 (by decide) ?_
        refine lv_aload_n hx hb dX7_late_60 rfl (lv_at hl 0 rfl) ?_
        refine m_get (v := .ref (ma 12)) hx hb hts hinX7 hown hK hM 12 (by decide) lk32 rfl dX7_late_61 ?_
        refine lv_iload_n hx hb dX7_late_64 rfl (lv_at hl 1 rfl) ?_
        refine m_iald (x := (σ 12 (ti o))) hx hb hK hM 12 (by decide) rfl (i := o) (n := 6) (od6 hI ko) rfl dX7_late_65 ?_
        refine lv_icmp_le (tgt := 83) hx hb dX7_late_66 (by decide) (fun c_2 => ?_) (fun c_2 => ?_)
        · replace c_2 := Int32.not_lt.mpr c_2
          refine lv_iconst (v := 0) hx hb dX7_late_83 (by decide) ?_
          exact W.iret (v := 0) hx hb hr (fun t ht hW => ⟨congrArg (fun z => Outcome.returned (some (Value.int z))) (by first | rfl | (simp [-Int32.not_lt, -Int32.not_le, okL, okV, okO, okR, okD, isP, shP, f_late, lastF, hi, c_1, hi9, c_2]; done) | (simp_all [-Int32.not_lt, -Int32.not_le, okL, okV, okO, okR, okD, isP, shP, f_late, lastF]; done)), ht⟩) (fun _ h => nomatch h) dX7_late_84
        · replace c_2 := Int32.not_le.mp c_2
          refine lv_iload_n hx hb dX7_late_69 rfl (lv_at hl 2 rfl) ?_
          refine lv_bipush (v := 24) hx hb dX7_late_70 (by decide) ?_
          refine lv_idiv hx hb dX7_late_72 (by decide) ?_
          refine lv_aload_n hx hb dX7_late_73 rfl (lv_at hl 0 rfl) ?_
          refine m_get (v := .ref (ma 12)) hx hb hts hinX7 hown hK hM 12 (by decide) lk32 rfl dX7_late_74 ?_
          refine lv_iload_n hx hb dX7_late_77 rfl (lv_at hl 1 rfl) ?_
          refine m_iald (x := (σ 12 (ti o))) hx hb hK hM 12 (by decide) rfl (i := o) (n := 6) (od6 hI ko) rfl dX7_late_78 ?_
          refine lv_isub hx hb dX7_late_79 ?_
          refine lv_goto (tgt := 84) hx hb dX7_late_80 (by decide) ?_
          exact W.iret (v := (((lastF σ o i) / 24) - (σ 12 (ti o)))) hx hb hr (fun t ht hW => ⟨congrArg (fun z => Outcome.returned (some (Value.int z))) (by first | rfl | (simp [-Int32.not_lt, -Int32.not_le, okL, okV, okO, okR, okD, isP, shP, f_late, lastF, hi, c_1, hi9, c_2]; done) | (simp_all [-Int32.not_lt, -Int32.not_le, okL, okV, okO, okR, okD, isP, shP, f_late, lastF]; done)), ht⟩) (fun _ h => nomatch h) dX7_late_84
      · replace c_1 := Int32.not_le.mp c_1
        have hi1 : i < nL σ := fnd_lt hI hi c_1
        have hLb := hI.l.1
        refine lv_aload_n hx hb dX7_late_12 rfl (lv_at hl 0 rfl) ?_
        refine m_get (v := .ref (ma 14)) hx hb hts hinX7 hown hK hM 14 (by decide) lk38 rfl dX7_late_13 ?_
        refine lv_iload_n hx hb dX7_late_16 rfl (lv_at hl 3 rfl) ?_
        refine m_iald (x := (σ 14 i)) hx hb hK hM 14 (by decide) rfl (i := (nI i)) (n := 24) (vin_mono (vin_nI hi1 (by omega)) hLb) (congrArg (σ 14) (ti_nI (by omega))) dX7_late_17 ?_
        refine lv_iload_n hx hb dX7_late_18 rfl (lv_at hl 1 rfl) ?_
        refine lv_icmp_ne (tgt := 50) hx hb dX7_late_19 (by decide) (fun c_3 => ?_) (fun c_3 => ?_)
        · refine lv_iinc (v := ((nI i) + 1)) (lv' := [(3, .int ((nI i) + 1)), (0, .ref (ma 0)), (1, .int o), (2, .int (lastF σ o i))]) hx hb dX7_late_50 hl (k := 3) rfl rfl (by decide) rfl (fun ls hl => ?_)
          refine lv_goto (tgt := 4) hx hb dX7_late_53 (by decide) ?_
          have e_4 : ((lastF σ o (i + 1)) : Int32) = (lastF σ o i) := (by first | rfl | (simp [-Int32.not_lt, -Int32.not_le, okL, okV, okO, okR, okD, isP, shP, f_late, lastF, hi, c_1, c_3]; done) | (simp_all [-Int32.not_lt, -Int32.not_le, okL, okV, okO, okR, okD, isP, shP, f_late, lastF]; done))
          have e_5 : ((nI (i + 1)) : Int32) = ((nI i) + 1) := (nI_1 i).symm
          have hl2 : lv_has ls 4 [(0, .ref (ma 0)), (1, .int o), (2, .int (lastF σ o (i + 1))), (3, .int (nI (i + 1)))] := by
            rw [e_4, e_5]
            exact lv_sub hl [1, 2, 3, 0] rfl
          exact ih_4 (i + 1) (by omega) (by omega) ls hl2
        · refine lv_aload_n hx hb dX7_late_22 rfl (lv_at hl 0 rfl) ?_
          refine m_get (v := .ref (ma 21)) hx hb hts hinX7 hown hK hM 21 (by decide) lk59 rfl dX7_late_23 ?_
          refine lv_iload_n hx hb dX7_late_26 rfl (lv_at hl 3 rfl) ?_
          refine m_cald (x := (σ 21 i)) hx hb hK hM (i := (nI i)) (vin_mono (vin_nI hi1 (by omega)) hLb) (congrArg (σ 21) (ti_nI (by omega))) dX7_late_27 ?_
          refine lv_bipush (v := 119) hx hb dX7_late_28 (by decide) ?_
          refine lv_icmp_eq (tgt := 50) hx hb dX7_late_30 (by decide) (fun c_6 => ?_) (fun c_6 => ?_)
          · refine lv_iinc (v := ((nI i) + 1)) (lv' := [(3, .int ((nI i) + 1)), (0, .ref (ma 0)), (1, .int o), (2, .int (lastF σ o i))]) hx hb dX7_late_50 hl (k := 3) rfl rfl (by decide) rfl (fun ls hl => ?_)
            refine lv_goto (tgt := 4) hx hb dX7_late_53 (by decide) ?_
            have e_7 : ((lastF σ o (i + 1)) : Int32) = (lastF σ o i) := (by first | rfl | (simp [-Int32.not_lt, -Int32.not_le, okL, okV, okO, okR, okD, isP, shP, f_late, lastF, hi, c_1, c_3, c_6]; done) | (simp_all [-Int32.not_lt, -Int32.not_le, okL, okV, okO, okR, okD, isP, shP, f_late, lastF]; done))
            have e_8 : ((nI (i + 1)) : Int32) = ((nI i) + 1) := (nI_1 i).symm
            have hl2 : lv_has ls 4 [(0, .ref (ma 0)), (1, .int o), (2, .int (lastF σ o (i + 1))), (3, .int (nI (i + 1)))] := by
              rw [e_7, e_8]
              exact lv_sub hl [1, 2, 3, 0] rfl
            exact ih_4 (i + 1) (by omega) (by omega) ls hl2
          · refine lv_aload_n hx hb dX7_late_33 rfl (lv_at hl 0 rfl) ?_
            refine m_get (v := .ref (ma 18)) hx hb hts hinX7 hown hK hM 18 (by decide) lk50 rfl dX7_late_34 ?_
            refine lv_iload_n hx hb dX7_late_37 rfl (lv_at hl 3 rfl) ?_
            refine m_iald (x := (σ 18 i)) hx hb hK hM 18 (by decide) rfl (i := (nI i)) (n := 24) (vin_mono (vin_nI hi1 (by omega)) hLb) (congrArg (σ 18) (ti_nI (by omega))) dX7_late_38 ?_
            refine lv_iload_n hx hb dX7_late_39 rfl (lv_at hl 2 rfl) ?_
            refine lv_icmp_le (tgt := 50) hx hb dX7_late_40 (by decide) (fun c_9 => ?_) (fun c_9 => ?_)
            · replace c_9 := Int32.not_lt.mpr c_9
              refine lv_iinc (v := ((nI i) + 1)) (lv' := [(3, .int ((nI i) + 1)), (0, .ref (ma 0)), (1, .int o), (2, .int (lastF σ o i))]) hx hb dX7_late_50 hl (k := 3) rfl rfl (by decide) rfl (fun ls hl => ?_)
              refine lv_goto (tgt := 4) hx hb dX7_late_53 (by decide) ?_
              have e_10 : ((lastF σ o (i + 1)) : Int32) = (lastF σ o i) := (by first | rfl | (simp [-Int32.not_lt, -Int32.not_le, okL, okV, okO, okR, okD, isP, shP, f_late, lastF, hi, c_1, c_3, c_6, c_9]; done) | (simp_all [-Int32.not_lt, -Int32.not_le, okL, okV, okO, okR, okD, isP, shP, f_late, lastF]; done))
              have e_11 : ((nI (i + 1)) : Int32) = ((nI i) + 1) := (nI_1 i).symm
              have hl2 : lv_has ls 4 [(0, .ref (ma 0)), (1, .int o), (2, .int (lastF σ o (i + 1))), (3, .int (nI (i + 1)))] := by
                rw [e_10, e_11]
                exact lv_sub hl [1, 2, 3, 0] rfl
              exact ih_4 (i + 1) (by omega) (by omega) ls hl2
            · replace c_9 := Int32.not_le.mp c_9
              refine lv_aload_n hx hb dX7_late_43 rfl (lv_at hl 0 rfl) ?_
              refine m_get (v := .ref (ma 18)) hx hb hts hinX7 hown hK hM 18 (by decide) lk50 rfl dX7_late_44 ?_
              refine lv_iload_n hx hb dX7_late_47 rfl (lv_at hl 3 rfl) ?_
              refine m_iald (x := (σ 18 i)) hx hb hK hM 18 (by decide) rfl (i := (nI i)) (n := 24) (vin_mono (vin_nI hi1 (by omega)) hLb) (congrArg (σ 18) (ti_nI (by omega))) dX7_late_48 ?_
              refine lv_istore_n (lv' := [(2, .int (σ 18 i)), (0, .ref (ma 0)), (1, .int o), (3, .int (nI i))]) hx hb dX7_late_49 rfl hl (by decide) rfl (fun ls hl => ?_)
              refine lv_iinc (v := ((nI i) + 1)) (lv' := [(3, .int ((nI i) + 1)), (2, .int (σ 18 i)), (0, .ref (ma 0)), (1, .int o)]) hx hb dX7_late_50 hl (k := 3) rfl rfl (by decide) rfl (fun ls hl => ?_)
              refine lv_goto (tgt := 4) hx hb dX7_late_53 (by decide) ?_
              have e_12 : ((lastF σ o (i + 1)) : Int32) = (σ 18 i) := (by first | rfl | (simp [-Int32.not_lt, -Int32.not_le, okL, okV, okO, okR, okD, isP, shP, f_late, lastF, hi, c_1, c_3, c_6, c_9]; done) | (simp_all [-Int32.not_lt, -Int32.not_le, okL, okV, okO, okR, okD, isP, shP, f_late, lastF]; done))
              have e_13 : ((nI (i + 1)) : Int32) = ((nI i) + 1) := (nI_1 i).symm
              have hl2 : lv_has ls 4 [(0, .ref (ma 0)), (1, .int o), (2, .int (lastF σ o (i + 1))), (3, .int (nI (i + 1)))] := by
                rw [e_12, e_13]
                exact lv_sub hl [2, 3, 1, 0] rfl
              exact ih_4 (i + 1) (by omega) (by omega) ls hl2
  have e_14 : ((lastF σ o (0)) : Int32) = 0 := (by first | rfl | (simp [-Int32.not_lt, -Int32.not_le, okL, okV, okO, okR, okD, isP, shP, f_late, lastF]; done) | (simp_all [-Int32.not_lt, -Int32.not_le, okL, okV, okO, okR, okD, isP, shP, f_late, lastF]; done))
  have e_15 : ((nI (0)) : Int32) = 0 := (by first | rfl | (simp [-Int32.not_lt, -Int32.not_le, okL, okV, okO, okR, okD, isP, shP, f_late, lastF]; done) | (simp_all [-Int32.not_lt, -Int32.not_le, okL, okV, okO, okR, okD, isP, shP, f_late, lastF]; done))
  have hl2 : lv_has ls 4 [(0, .ref (ma 0)), (1, .int o), (2, .int (lastF σ o (0))), (3, .int (nI (0)))] := by
    rw [e_14, e_15]
    exact lv_sub hl [2, 3, 1, 0] rfl
  exact lp4 (nL σ - 0 + 1) (0) (Nat.zero_le _) (Nat.lt_succ_self _) ls hl2
set_option maxHeartbeats 4000000 in
set_option maxRecDepth 100000 in
theorem k_worth (la : Launch) (g : EG) (ma : Nat → Nat) (σ : Sg) (u : Nat → Int64) (o : Int32) (hI : INV σ) (ko : vp_in o (nO σ)) : Met la yX7_worth wsX7_worth ({ frames := 1, cells := 0, slots := 0, locals := 23 } : Room) (va_Pc [.ref (ma 0), .int o] (fun U => MR g ma σ u U.heap ∧ KK g U)) (QR (.returned (some (.int (f_worth σ o))))) 0 0 (fun _ => False) := by
  refine Met.ofW (cc := cX7_worth) (maxL := 4) (ret := (some .int)) (by decide) rfl ?_
  intro p e s m args below meth c s₁ B hml hv
  obtain ⟨rfl, hR0, hK⟩ := hv
  have hx := B.exec
  have hb := B.bytes
  have hr := B.returns
  have hts := atoms_spec (ws := wsX7_worth) B.pre
  have hown : s.vm.findClass RX7 = some m.cls := findClass_of_methodNamed B.named
  have hlocks := B.notSynchronized
  have hM : MS g 0 ma σ u s.heap s.heap [] := MS.start hR0
  have hinX7 : ∀ w ∈ wsX70, w ∈ wsX7_worth := by decide +kernel
  have lk35 := hts (.fieldLink RX7 35 "DyehouseLedgerModel" "price" "[I") (by decide +kernel)
  have lk38 := hts (.fieldLink RX7 38 "DyehouseLedgerModel" "order" "[I") (by decide +kernel)
  have lk41 := hts (.fieldLink RX7 41 "DyehouseLedgerModel" "weight" "[I") (by decide +kernel)
  have lk59 := hts (.fieldLink RX7 59 "DyehouseLedgerModel" "state" "[C") (by decide +kernel)
  have lk92 := hts (.fieldLink RX7 92 "DyehouseLedgerModel" "lots" "I") (by decide +kernel)
  have hl := lv_entry ([.ref (ma 0), .int o]) (n := 4) (Nat.le_of_ble_eq_true rfl)
  rw [lg_entry_eq]
  generalize (lg_sl ([.ref (ma 0), .int o]) ++ List.replicate (4 - (lg_sl ([.ref (ma 0), .int o])).length) Slot.unset).toArray = ls at hl ⊢
  have hl : lv_has ls 4 [(0, .ref (ma 0)), (1, .int o)] := hl
  refine lv_iconst (v := 0) hx hb dX7_worth_0 (by decide) ?_
  refine lv_istore_n (lv' := [(2, .int 0), (0, .ref (ma 0)), (1, .int o)]) hx hb dX7_worth_1 rfl hl (by decide) rfl (fun ls hl => ?_)
  refine lv_iconst (v := 0) hx hb dX7_worth_2 (by decide) ?_
  refine lv_istore_n (lv' := [(3, .int 0), (2, .int 0), (0, .ref (ma 0)), (1, .int o)]) hx hb dX7_worth_3 rfl hl (by decide) rfl (fun ls hl => ?_)
  have lp4 : ∀ (n9 : Nat) (i : Nat), (i ≤ nL σ) → nL σ - i < n9 → ∀ (ls : Array Slot), lv_has ls 4 [(0, .ref (ma 0)), (1, .int o), (2, .int (f_wsum σ o i)), (3, .int (nI i))] → W p la e ({ frames := 1, cells := 0, slots := 0, locals := 23 } : Room) s m ([.ref (ma 0), .int o] : List Value).toArray below meth c s.heap [] 0 0 (MQ below (QR (.returned (some (.int (f_worth σ o))))) ([.ref (ma 0), .int o] : List Value).toArray s 0 0 (fun _ => False)) (F0 m 4 ls []) := by
    intro n9_4
    induction n9_4 with
    | zero => intro i _ h9 ; exact absurd h9 (Nat.not_lt_zero _)
    | succ n9_4 ih_4 =>
      intro i hi h9 ls hl
      refine lv_iload_n hx hb dX7_worth_4 rfl (lv_at hl 3 rfl) ?_
      refine lv_aload_n hx hb dX7_worth_5 rfl (lv_at hl 0 rfl) ?_
      refine m_get (v := .int (σ 3 0)) hx hb hts hinX7 hown hK hM 3 (by decide) lk92 rfl dX7_worth_6 ?_
      refine lv_icmp_ge (tgt := 59) hx hb dX7_worth_9 (by decide) (fun c_1 => ?_) (fun c_1 => ?_)
      · replace c_1 := Int32.not_lt.mpr c_1
        have hi9 : i = nL σ := fnd_eq hI hi c_1
        refine lv_iload_n hx hb dX7_worth_59 rfl (lv_at hl 2 rfl) ?_
        refine lv_bipush (v := 100) hx hb dX7_worth_60 (by decide) ?_
        refine lv_aload_n hx hb dX7_worth_62 rfl (lv_at hl 0 rfl) ?_
        refine lv_iload_n hx hb dX7_worth_63 rfl (lv_at hl 1 rfl) ?_
        refine mc_ro (n := 1) (As := [.int o]) (rest := [.int 100, .int (f_wsum σ o i)]) (v := [.int (f_late σ o)]) ⟨hx, hb, hml, hown, hts⟩ hK hM (k_late la g ma σ u o hI ko) gX7_worth_X7_late rfl rfl rfl (by decide +kernel) ⟨Nat.le_of_ble_eq_true rfl, Nat.le_of_ble_eq_true rfl⟩ rfl hl.1 rfl (Nat.le_of_ble_eq_true rfl) dX7_worth_64 ⟨Nat.zero_le _, Nat.zero_le _⟩ rfl ?_
        refine lv_imul hx hb dX7_worth_67 ?_
        refine lv_isub hx hb dX7_worth_68 ?_
        refine lv_istore_n (lv' := [(2, .int ((f_wsum σ o i) - (100 * (f_late σ o)))), (0, .ref (ma 0)), (1, .int o), (3, .int (nI i))]) hx hb dX7_worth_69 rfl hl (by decide) rfl (fun ls hl => ?_)
        refine lv_iload_n hx hb dX7_worth_70 rfl (lv_at hl 0 rfl) ?_
        refine lv_if_ge (tgt := 78) hx hb dX7_worth_71 (by decide) (fun c_2 => ?_) (fun c_2 => ?_)
        · replace c_2 := Int32.not_lt.mpr c_2
          refine lv_iload_n hx hb dX7_worth_78 rfl (lv_at hl 0 rfl) ?_
          exact W.iret (v := ((f_wsum σ o i) - (100 * (f_late σ o)))) hx hb hr (fun t ht hW => ⟨congrArg (fun z => Outcome.returned (some (Value.int z))) (by first | rfl | (simp [-Int32.not_lt, -Int32.not_le, okL, okV, okO, okR, okD, isP, shP, f_worth, f_wsum, sumF, hi, c_1, hi9, c_2]; done) | (simp_all [-Int32.not_lt, -Int32.not_le, okL, okV, okO, okR, okD, isP, shP, f_worth, f_wsum, sumF]; done)), ht⟩) (fun _ h => nomatch h) dX7_worth_79
        · replace c_2 := Int32.not_le.mp c_2
          refine lv_iconst (v := 0) hx hb dX7_worth_74 (by decide) ?_
          refine lv_goto (tgt := 79) hx hb dX7_worth_75 (by decide) ?_
          exact W.iret (v := 0) hx hb hr (fun t ht hW => ⟨congrArg (fun z => Outcome.returned (some (Value.int z))) (by first | rfl | (simp [-Int32.not_lt, -Int32.not_le, okL, okV, okO, okR, okD, isP, shP, f_worth, f_wsum, sumF, hi, c_1, hi9, c_2]; done) | (simp_all [-Int32.not_lt, -Int32.not_le, okL, okV, okO, okR, okD, isP, shP, f_worth, f_wsum, sumF]; done)), ht⟩) (fun _ h => nomatch h) dX7_worth_79
      · replace c_1 := Int32.not_le.mp c_1
        have hi1 : i < nL σ := fnd_lt hI hi c_1
        have hLb := hI.l.1
        refine lv_iload_n hx hb dX7_worth_12 rfl (lv_at hl 2 rfl) ?_
        refine lv_aload_n hx hb dX7_worth_13 rfl (lv_at hl 0 rfl) ?_
        refine m_get (v := .ref (ma 14)) hx hb hts hinX7 hown hK hM 14 (by decide) lk38 rfl dX7_worth_14 ?_
        refine lv_iload_n hx hb dX7_worth_17 rfl (lv_at hl 3 rfl) ?_
        refine m_iald (x := (σ 14 i)) hx hb hK hM 14 (by decide) rfl (i := (nI i)) (n := 24) (vin_mono (vin_nI hi1 (by omega)) hLb) (congrArg (σ 14) (ti_nI (by omega))) dX7_worth_18 ?_
        refine lv_iload_n hx hb dX7_worth_19 rfl (lv_at hl 1 rfl) ?_
        refine lv_icmp_ne (tgt := 50) hx hb dX7_worth_20 (by decide) (fun c_3 => ?_) (fun c_3 => ?_)
        · refine lv_iconst (v := 0) hx hb dX7_worth_50 (by decide) ?_
          refine lv_iadd hx hb dX7_worth_51 ?_
          refine lv_istore_n (lv' := [(2, .int ((f_wsum σ o i) + 0)), (0, .ref (ma 0)), (1, .int o), (3, .int (nI i))]) hx hb dX7_worth_52 rfl hl (by decide) rfl (fun ls hl => ?_)
          refine lv_iinc (v := ((nI i) + 1)) (lv' := [(3, .int ((nI i) + 1)), (2, .int ((f_wsum σ o i) + 0)), (0, .ref (ma 0)), (1, .int o)]) hx hb dX7_worth_53 hl (k := 3) rfl rfl (by decide) rfl (fun ls hl => ?_)
          refine lv_goto (tgt := 4) hx hb dX7_worth_56 (by decide) ?_
          have e_4 : ((f_wsum σ o (i + 1)) : Int32) = ((f_wsum σ o i) + 0) := (by first | rfl | (simp [-Int32.not_lt, -Int32.not_le, okL, okV, okO, okR, okD, isP, shP, f_worth, f_wsum, sumF, hi, c_1, c_3]; done) | (simp_all [-Int32.not_lt, -Int32.not_le, okL, okV, okO, okR, okD, isP, shP, f_worth, f_wsum, sumF]; done))
          have e_5 : ((nI (i + 1)) : Int32) = ((nI i) + 1) := (nI_1 i).symm
          have hl2 : lv_has ls 4 [(0, .ref (ma 0)), (1, .int o), (2, .int (f_wsum σ o (i + 1))), (3, .int (nI (i + 1)))] := by
            rw [e_4, e_5]
            exact lv_sub hl [2, 3, 1, 0] rfl
          exact ih_4 (i + 1) (by omega) (by omega) ls hl2
        · refine lv_aload_n hx hb dX7_worth_23 rfl (lv_at hl 0 rfl) ?_
          refine m_get (v := .ref (ma 21)) hx hb hts hinX7 hown hK hM 21 (by decide) lk59 rfl dX7_worth_24 ?_
          refine lv_iload_n hx hb dX7_worth_27 rfl (lv_at hl 3 rfl) ?_
          refine m_cald (x := (σ 21 i)) hx hb hK hM (i := (nI i)) (vin_mono (vin_nI hi1 (by omega)) hLb) (congrArg (σ 21) (ti_nI (by omega))) dX7_worth_28 ?_
          refine lv_bipush (v := 112) hx hb dX7_worth_29 (by decide) ?_
          refine lv_icmp_ne (tgt := 50) hx hb dX7_worth_31 (by decide) (fun c_6 => ?_) (fun c_6 => ?_)
          · refine lv_iconst (v := 0) hx hb dX7_worth_50 (by decide) ?_
            refine lv_iadd hx hb dX7_worth_51 ?_
            refine lv_istore_n (lv' := [(2, .int ((f_wsum σ o i) + 0)), (0, .ref (ma 0)), (1, .int o), (3, .int (nI i))]) hx hb dX7_worth_52 rfl hl (by decide) rfl (fun ls hl => ?_)
            refine lv_iinc (v := ((nI i) + 1)) (lv' := [(3, .int ((nI i) + 1)), (2, .int ((f_wsum σ o i) + 0)), (0, .ref (ma 0)), (1, .int o)]) hx hb dX7_worth_53 hl (k := 3) rfl rfl (by decide) rfl (fun ls hl => ?_)
            refine lv_goto (tgt := 4) hx hb dX7_worth_56 (by decide) ?_
            have e_7 : ((f_wsum σ o (i + 1)) : Int32) = ((f_wsum σ o i) + 0) := (by first | rfl | (simp [-Int32.not_lt, -Int32.not_le, okL, okV, okO, okR, okD, isP, shP, f_worth, f_wsum, sumF, hi, c_1, c_3, c_6]; done) | (simp_all [-Int32.not_lt, -Int32.not_le, okL, okV, okO, okR, okD, isP, shP, f_worth, f_wsum, sumF]; done))
            have e_8 : ((nI (i + 1)) : Int32) = ((nI i) + 1) := (nI_1 i).symm
            have hl2 : lv_has ls 4 [(0, .ref (ma 0)), (1, .int o), (2, .int (f_wsum σ o (i + 1))), (3, .int (nI (i + 1)))] := by
              rw [e_7, e_8]
              exact lv_sub hl [2, 3, 1, 0] rfl
            exact ih_4 (i + 1) (by omega) (by omega) ls hl2
          · refine lv_aload_n hx hb dX7_worth_34 rfl (lv_at hl 0 rfl) ?_
            refine m_get (v := .ref (ma 15)) hx hb hts hinX7 hown hK hM 15 (by decide) lk41 rfl dX7_worth_35 ?_
            refine lv_iload_n hx hb dX7_worth_38 rfl (lv_at hl 3 rfl) ?_
            refine m_iald (x := (σ 15 i)) hx hb hK hM 15 (by decide) rfl (i := (nI i)) (n := 24) (vin_mono (vin_nI hi1 (by omega)) hLb) (congrArg (σ 15) (ti_nI (by omega))) dX7_worth_39 ?_
            refine lv_aload_n hx hb dX7_worth_40 rfl (lv_at hl 0 rfl) ?_
            refine m_get (v := .ref (ma 13)) hx hb hts hinX7 hown hK hM 13 (by decide) lk35 rfl dX7_worth_41 ?_
            refine lv_iload_n hx hb dX7_worth_44 rfl (lv_at hl 1 rfl) ?_
            refine m_iald (x := (σ 13 (ti o))) hx hb hK hM 13 (by decide) rfl (i := o) (n := 6) (od6 hI ko) rfl dX7_worth_45 ?_
            refine lv_imul hx hb dX7_worth_46 ?_
            refine lv_goto (tgt := 51) hx hb dX7_worth_47 (by decide) ?_
            refine lv_iadd hx hb dX7_worth_51 ?_
            refine lv_istore_n (lv' := [(2, .int ((f_wsum σ o i) + ((σ 15 i) * (σ 13 (ti o))))), (0, .ref (ma 0)), (1, .int o), (3, .int (nI i))]) hx hb dX7_worth_52 rfl hl (by decide) rfl (fun ls hl => ?_)
            refine lv_iinc (v := ((nI i) + 1)) (lv' := [(3, .int ((nI i) + 1)), (2, .int ((f_wsum σ o i) + ((σ 15 i) * (σ 13 (ti o))))), (0, .ref (ma 0)), (1, .int o)]) hx hb dX7_worth_53 hl (k := 3) rfl rfl (by decide) rfl (fun ls hl => ?_)
            refine lv_goto (tgt := 4) hx hb dX7_worth_56 (by decide) ?_
            have e_9 : ((f_wsum σ o (i + 1)) : Int32) = ((f_wsum σ o i) + ((σ 15 i) * (σ 13 (ti o)))) := (by first | rfl | (simp [-Int32.not_lt, -Int32.not_le, okL, okV, okO, okR, okD, isP, shP, f_worth, f_wsum, sumF, hi, c_1, c_3, c_6]; done) | (simp_all [-Int32.not_lt, -Int32.not_le, okL, okV, okO, okR, okD, isP, shP, f_worth, f_wsum, sumF]; done))
            have e_10 : ((nI (i + 1)) : Int32) = ((nI i) + 1) := (nI_1 i).symm
            have hl2 : lv_has ls 4 [(0, .ref (ma 0)), (1, .int o), (2, .int (f_wsum σ o (i + 1))), (3, .int (nI (i + 1)))] := by
              rw [e_9, e_10]
              exact lv_sub hl [2, 3, 1, 0] rfl
            exact ih_4 (i + 1) (by omega) (by omega) ls hl2
  have e_11 : ((f_wsum σ o (0)) : Int32) = 0 := (by first | rfl | (simp [-Int32.not_lt, -Int32.not_le, okL, okV, okO, okR, okD, isP, shP, f_worth, f_wsum, sumF]; done) | (simp_all [-Int32.not_lt, -Int32.not_le, okL, okV, okO, okR, okD, isP, shP, f_worth, f_wsum, sumF]; done))
  have e_12 : ((nI (0)) : Int32) = 0 := (by first | rfl | (simp [-Int32.not_lt, -Int32.not_le, okL, okV, okO, okR, okD, isP, shP, f_worth, f_wsum, sumF]; done) | (simp_all [-Int32.not_lt, -Int32.not_le, okL, okV, okO, okR, okD, isP, shP, f_worth, f_wsum, sumF]; done))
  have hl2 : lv_has ls 4 [(0, .ref (ma 0)), (1, .int o), (2, .int (f_wsum σ o (0))), (3, .int (nI (0)))] := by
    rw [e_11, e_12]
    exact lv_sub hl [2, 3, 1, 0] rfl
  exact lp4 (nL σ - 0 + 1) (0) (Nat.zero_le _) (Nat.lt_succ_self _) ls hl2
set_option maxHeartbeats 4000000 in
set_option maxRecDepth 100000 in
theorem k_judged (la : Launch) (g : EG) (ma : Nat → Nat) (σ : Sg) (u : Nat → Int64) (l : Int32) (hI : INV σ) (kl : vp_in l (nL σ)) : Met la yX7_judged wsX7_judged ({ frames := 2, cells := 0, slots := 0, locals := 43 } : Room) (va_Pc [.ref (ma 0), .int l] (fun U => MR g ma σ u U.heap ∧ KK g U)) (QR (.returned (some (.int (f_judged σ l))))) 0 0 (fun _ => False) := by
  refine Met.ofW (cc := cX7_judged) (maxL := 3) (ret := (some .char)) (by decide) rfl ?_
  intro p e s m args below meth c s₁ B hml hv
  obtain ⟨rfl, hR0, hK⟩ := hv
  have hx := B.exec
  have hb := B.bytes
  have hr := B.returns
  have hts := atoms_spec (ws := wsX7_judged) B.pre
  have hown : s.vm.findClass RX7 = some m.cls := findClass_of_methodNamed B.named
  have hlocks := B.notSynchronized
  have hM : MS g 0 ma σ u s.heap s.heap [] := MS.start hR0
  have hinX7 : ∀ w ∈ wsX70, w ∈ wsX7_judged := by decide +kernel
  have lk29 := hts (.fieldLink RX7 29 "DyehouseLedgerModel" "bound" "[I") (by decide +kernel)
  have lk38 := hts (.fieldLink RX7 38 "DyehouseLedgerModel" "order" "[I") (by decide +kernel)
  have lk59 := hts (.fieldLink RX7 59 "DyehouseLedgerModel" "state" "[C") (by decide +kernel)
  have lk92 := hts (.fieldLink RX7 92 "DyehouseLedgerModel" "lots" "I") (by decide +kernel)
  have hl := lv_entry ([.ref (ma 0), .int l]) (n := 3) (Nat.le_of_ble_eq_true rfl)
  rw [lg_entry_eq]
  generalize (lg_sl ([.ref (ma 0), .int l]) ++ List.replicate (3 - (lg_sl ([.ref (ma 0), .int l])).length) Slot.unset).toArray = ls at hl ⊢
  have hl : lv_has ls 3 [(0, .ref (ma 0)), (1, .int l)] := hl
  refine lv_aload_n hx hb dX7_judged_0 rfl (lv_at hl 0 rfl) ?_
  refine lv_iload_n hx hb dX7_judged_1 rfl (lv_at hl 1 rfl) ?_
  refine mc_ro (n := 1) (As := [.int l]) (rest := []) (v := [.int (f_off σ l)]) ⟨hx, hb, hml, hown, hts⟩ hK hM (k_off la g ma σ u l hI kl) gX7_judged_X7_off rfl rfl rfl (by decide +kernel) ⟨Nat.le_of_ble_eq_true rfl, Nat.le_of_ble_eq_true rfl⟩ rfl hl.1 rfl (Nat.le_of_ble_eq_true rfl) dX7_judged_2 ⟨Nat.zero_le _, Nat.zero_le _⟩ rfl ?_
  refine lv_aload_n hx hb dX7_judged_5 rfl (lv_at hl 0 rfl) ?_
  refine m_get (v := .ref (ma 11)) hx hb hts hinX7 hown hK hM 11 (by decide) lk29 rfl dX7_judged_6 ?_
  refine lv_aload_n hx hb dX7_judged_9 rfl (lv_at hl 0 rfl) ?_
  refine m_get (v := .ref (ma 14)) hx hb hts hinX7 hown hK hM 14 (by decide) lk38 rfl dX7_judged_10 ?_
  refine lv_iload_n hx hb dX7_judged_13 rfl (lv_at hl 1 rfl) ?_
  refine m_iald (x := (σ 14 (ti l))) hx hb hK hM 14 (by decide) rfl (i := l) (n := 24) (lot24 hI kl) rfl dX7_judged_14 ?_
  refine m_iald (x := (σ 11 (ti (σ 14 (ti l))))) hx hb hK hM 11 (by decide) rfl (i := (σ 14 (ti l))) (n := 6) (od6 hI (ordO hI kl)) rfl dX7_judged_15 ?_
  refine lv_icmp_le (tgt := 22) hx hb dX7_judged_16 (by decide) (fun c_1 => ?_) (fun c_1 => ?_)
  · replace c_1 := Int32.not_lt.mpr c_1
    refine lv_iconst (v := 0) hx hb dX7_judged_22 (by decide) ?_
    refine lv_istore_n (lv' := [(2, .int 0), (0, .ref (ma 0)), (1, .int l)]) hx hb dX7_judged_23 rfl hl (by decide) rfl (fun ls hl => ?_)
    have lp24 : ∀ (n9 : Nat) (i : Nat), (i ≤ nL σ) → (anyB (p_apart σ l) i = false) → nL σ - i < n9 → ∀ (ls : Array Slot), lv_has ls 3 [(0, .ref (ma 0)), (1, .int l), (2, .int (nI i))] → W p la e ({ frames := 2, cells := 0, slots := 0, locals := 43 } : Room) s m ([.ref (ma 0), .int l] : List Value).toArray below meth c s.heap [] 0 0 (MQ below (QR (.returned (some (.int (f_judged σ l))))) ([.ref (ma 0), .int l] : List Value).toArray s 0 0 (fun _ => False)) (F0 m 24 ls []) := by
      intro n9_24
      induction n9_24 with
      | zero => intro i _ _ h9 ; exact absurd h9 (Nat.not_lt_zero _)
      | succ n9_24 ih_24 =>
        intro i hi hT h9 ls hl
        refine lv_iload_n hx hb dX7_judged_24 rfl (lv_at hl 2 rfl) ?_
        refine lv_aload_n hx hb dX7_judged_25 rfl (lv_at hl 0 rfl) ?_
        refine m_get (v := .int (σ 3 0)) hx hb hts hinX7 hown hK hM 3 (by decide) lk92 rfl dX7_judged_26 ?_
        refine lv_icmp_ge (tgt := 87) hx hb dX7_judged_29 (by decide) (fun c_2 => ?_) (fun c_2 => ?_)
        · replace c_2 := Int32.not_lt.mpr c_2
          have hi9 : i = nL σ := fnd_eq hI hi c_2
          refine lv_bipush (v := 112) hx hb dX7_judged_87 (by decide) ?_
          exact W.zret (v := 112) hx hb hr rfl (fun t ht hW => ⟨congrArg (fun z => Outcome.returned (some (Value.int z))) (by first | (simp_all [-Int32.not_lt, -Int32.not_le, f_judged, f_bound]; done) | (rw [hi9] at hT; simp_all [-Int32.not_lt, -Int32.not_le, f_judged, f_bound]; done)), ht⟩) (fun _ h => nomatch h) dX7_judged_89
        · replace c_2 := Int32.not_le.mp c_2
          have hi1 : i < nL σ := fnd_lt hI hi c_2
          have hLb := hI.l.1
          refine lv_aload_n hx hb dX7_judged_32 rfl (lv_at hl 0 rfl) ?_
          refine m_get (v := .ref (ma 14)) hx hb hts hinX7 hown hK hM 14 (by decide) lk38 rfl dX7_judged_33 ?_
          refine lv_iload_n hx hb dX7_judged_36 rfl (lv_at hl 2 rfl) ?_
          refine m_iald (x := (σ 14 i)) hx hb hK hM 14 (by decide) rfl (i := (nI i)) (n := 24) (vin_mono (vin_nI hi1 (by omega)) hLb) (congrArg (σ 14) (ti_nI (by omega))) dX7_judged_37 ?_
          refine lv_aload_n hx hb dX7_judged_38 rfl (lv_at hl 0 rfl) ?_
          refine m_get (v := .ref (ma 14)) hx hb hts hinX7 hown hK hM 14 (by decide) lk38 rfl dX7_judged_39 ?_
          refine lv_iload_n hx hb dX7_judged_42 rfl (lv_at hl 1 rfl) ?_
          refine m_iald (x := (σ 14 (ti l))) hx hb hK hM 14 (by decide) rfl (i := l) (n := 24) (lot24 hI kl) rfl dX7_judged_43 ?_
          refine lv_icmp_ne (tgt := 81) hx hb dX7_judged_44 (by decide) (fun c_3 => ?_) (fun c_3 => ?_)
          · refine lv_iinc (v := ((nI i) + 1)) (lv' := [(2, .int ((nI i) + 1)), (0, .ref (ma 0)), (1, .int l)]) hx hb dX7_judged_81 hl (k := 2) rfl rfl (by decide) rfl (fun ls hl => ?_)
            refine lv_goto (tgt := 24) hx hb dX7_judged_84 (by decide) ?_
            have e_4 : ((nI (i + 1)) : Int32) = ((nI i) + 1) := (nI_1 i).symm
            have hl2 : lv_has ls 3 [(0, .ref (ma 0)), (1, .int l), (2, .int (nI (i + 1)))] := by
              rw [e_4]
              exact lv_sub hl [1, 2, 0] rfl
            exact ih_24 (i + 1) (by omega) (by simp_all [-Int32.not_lt, -Int32.not_le, anyB, p_apart, f_bound]) (by omega) ls hl2
          · refine lv_aload_n hx hb dX7_judged_47 rfl (lv_at hl 0 rfl) ?_
            refine m_get (v := .ref (ma 21)) hx hb hts hinX7 hown hK hM 21 (by decide) lk59 rfl dX7_judged_48 ?_
            refine lv_iload_n hx hb dX7_judged_51 rfl (lv_at hl 2 rfl) ?_
            refine m_cald (x := (σ 21 i)) hx hb hK hM (i := (nI i)) (vin_mono (vin_nI hi1 (by omega)) hLb) (congrArg (σ 21) (ti_nI (by omega))) dX7_judged_52 ?_
            refine lv_bipush (v := 112) hx hb dX7_judged_53 (by decide) ?_
            refine lv_icmp_ne (tgt := 81) hx hb dX7_judged_55 (by decide) (fun c_5 => ?_) (fun c_5 => ?_)
            · refine lv_iinc (v := ((nI i) + 1)) (lv' := [(2, .int ((nI i) + 1)), (0, .ref (ma 0)), (1, .int l)]) hx hb dX7_judged_81 hl (k := 2) rfl rfl (by decide) rfl (fun ls hl => ?_)
              refine lv_goto (tgt := 24) hx hb dX7_judged_84 (by decide) ?_
              have e_6 : ((nI (i + 1)) : Int32) = ((nI i) + 1) := (nI_1 i).symm
              have hl2 : lv_has ls 3 [(0, .ref (ma 0)), (1, .int l), (2, .int (nI (i + 1)))] := by
                rw [e_6]
                exact lv_sub hl [1, 2, 0] rfl
              exact ih_24 (i + 1) (by omega) (by simp_all [-Int32.not_lt, -Int32.not_le, anyB, p_apart, f_bound]) (by omega) ls hl2
            · refine lv_aload_n hx hb dX7_judged_58 rfl (lv_at hl 0 rfl) ?_
              refine lv_iload_n hx hb dX7_judged_59 rfl (lv_at hl 1 rfl) ?_
              refine lv_iload_n hx hb dX7_judged_60 rfl (lv_at hl 2 rfl) ?_
              refine mc_ro (n := 2) (As := [.int l, .int (nI i)]) (rest := []) (v := [.int (f_apart σ l (nI i))]) ⟨hx, hb, hml, hown, hts⟩ hK hM (k_apart la g ma σ u l (nI i) hI kl (vin_nI hi1 (by omega))) gX7_judged_X7_apart rfl rfl rfl (by decide +kernel) ⟨Nat.le_of_ble_eq_true rfl, Nat.le_of_ble_eq_true rfl⟩ rfl hl.1 rfl (Nat.le_of_ble_eq_true rfl) dX7_judged_61 ⟨Nat.zero_le _, Nat.zero_le _⟩ rfl ?_
              refine lv_aload_n hx hb dX7_judged_64 rfl (lv_at hl 0 rfl) ?_
              refine m_get (v := .ref (ma 11)) hx hb hts hinX7 hown hK hM 11 (by decide) lk29 rfl dX7_judged_65 ?_
              refine lv_aload_n hx hb dX7_judged_68 rfl (lv_at hl 0 rfl) ?_
              refine m_get (v := .ref (ma 14)) hx hb hts hinX7 hown hK hM 14 (by decide) lk38 rfl dX7_judged_69 ?_
              refine lv_iload_n hx hb dX7_judged_72 rfl (lv_at hl 1 rfl) ?_
              refine m_iald (x := (σ 14 (ti l))) hx hb hK hM 14 (by decide) rfl (i := l) (n := 24) (lot24 hI kl) rfl dX7_judged_73 ?_
              refine m_iald (x := (σ 11 (ti (σ 14 (ti l))))) hx hb hK hM 11 (by decide) rfl (i := (σ 14 (ti l))) (n := 6) (od6 hI (ordO hI kl)) rfl dX7_judged_74 ?_
              refine lv_icmp_le (tgt := 81) hx hb dX7_judged_75 (by decide) (fun c_7 => ?_) (fun c_7 => ?_)
              · replace c_7 := Int32.not_lt.mpr c_7
                refine lv_iinc (v := ((nI i) + 1)) (lv' := [(2, .int ((nI i) + 1)), (0, .ref (ma 0)), (1, .int l)]) hx hb dX7_judged_81 hl (k := 2) rfl rfl (by decide) rfl (fun ls hl => ?_)
                refine lv_goto (tgt := 24) hx hb dX7_judged_84 (by decide) ?_
                have e_8 : ((nI (i + 1)) : Int32) = ((nI i) + 1) := (nI_1 i).symm
                have hl2 : lv_has ls 3 [(0, .ref (ma 0)), (1, .int l), (2, .int (nI (i + 1)))] := by
                  rw [e_8]
                  exact lv_sub hl [1, 2, 0] rfl
                exact ih_24 (i + 1) (by omega) (by simp_all [-Int32.not_lt, -Int32.not_le, anyB, p_apart, f_bound]) (by omega) ls hl2
              · replace c_7 := Int32.not_le.mp c_7
                have hY : anyB (p_apart σ l) (nL σ) = true := anyB_hit hi1 (by simp_all [-Int32.not_lt, -Int32.not_le, p_apart, f_bound])
                refine lv_bipush (v := 97) hx hb dX7_judged_78 (by decide) ?_
                exact W.zret (v := 97) hx hb hr rfl (fun t ht hW => ⟨congrArg (fun z => Outcome.returned (some (Value.int z))) (by first | (simp_all [-Int32.not_lt, -Int32.not_le, f_judged, f_bound]; done) | (rw [hi9] at hT; simp_all [-Int32.not_lt, -Int32.not_le, f_judged, f_bound]; done)), ht⟩) (fun _ h => nomatch h) dX7_judged_80
    have e_9 : ((nI (0)) : Int32) = 0 := (by first | rfl | (simp [-Int32.not_lt, -Int32.not_le, okL, okV, okO, okR, okD, isP, shP, f_judged, f_bound, p_apart, anyB, c_1]; done) | (simp_all [-Int32.not_lt, -Int32.not_le, okL, okV, okO, okR, okD, isP, shP, f_judged, f_bound, p_apart, anyB]; done))
    have hl2 : lv_has ls 3 [(0, .ref (ma 0)), (1, .int l), (2, .int (nI (0)))] := by
      rw [e_9]
      exact lv_sub hl [1, 2, 0] rfl
    exact lp24 (nL σ - 0 + 1) (0) (Nat.zero_le _) rfl (Nat.lt_succ_self _) ls hl2
  · replace c_1 := Int32.not_le.mp c_1
    refine lv_bipush (v := 102) hx hb dX7_judged_19 (by decide) ?_
    exact W.zret (v := 102) hx hb hr rfl (fun t ht hW => ⟨congrArg (fun z => Outcome.returned (some (Value.int z))) (by first | (simp_all [-Int32.not_lt, -Int32.not_le, f_judged, f_bound]; done) | (rw [hi9] at hT; simp_all [-Int32.not_lt, -Int32.not_le, f_judged, f_bound]; done)), ht⟩) (fun _ h => nomatch h) dX7_judged_21
