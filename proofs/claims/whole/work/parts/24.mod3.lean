set_option maxHeartbeats 4000000 in
set_option maxRecDepth 100000 in
theorem k_addRecipe (la : Launch) (g : EG) (lo : Nat) (ma : Nat → Nat) (hA : MA lo ma) (σ : Sg) (u : Nat → Int64) (a b d : Int32) (hI : INV σ) : Met la yX7_addRecipe wsX7_addRecipe ({ frames := 2, cells := 0, slots := 0, locals := 44 } : Room) (va_Pc [.ref (ma 0), .int a, .int b, .int d] (fun U => MR g ma σ u U.heap ∧ KK g U)) (QM (.returned (some (.int (if t_addRecipe σ a b d = 0 then σ 1 0 else 0)))) (fun H1 => MR g ma (F_addRecipe σ a b d) u H1) (mown ma)) 0 0 (fun q => lo ≤ q) := by
  refine Met.ofW (cc := cX7_addRecipe) (maxL := 4) (ret := (some .int)) (by decide) rfl ?_
  intro p e s m args below meth c s₁ B hml hv
  obtain ⟨rfl, hR0, hK⟩ := hv
  have hx := B.exec
  have hb := B.bytes
  have hr := B.returns
  have hts := atoms_spec (ws := wsX7_addRecipe) B.pre
  have hown : s.vm.findClass RX7 = some m.cls := findClass_of_methodNamed B.named
  have hlocks := B.notSynchronized
  have hM : MS g lo ma σ u s.heap s.heap [] := MS.start hR0
  have hinX7 : ∀ w ∈ wsX70, w ∈ wsX7_addRecipe := by decide +kernel
  have lk108 := hts (.fieldLink RX7 108 "DyehouseLedgerModel" "recipes" "I") (by decide +kernel)
  have lk7 := hts (.fieldLink RX7 7 "DyehouseLedgerModel" "shade" "[I") (by decide +kernel)
  have lk84 := hts (.fieldLink RX7 84 "DyehouseLedgerModel" "thrown" "I") (by decide +kernel)
  have hl := lv_entry ([.ref (ma 0), .int a, .int b, .int d]) (n := 4) (Nat.le_of_ble_eq_true rfl)
  rw [lg_entry_eq]
  generalize (lg_sl ([.ref (ma 0), .int a, .int b, .int d]) ++ List.replicate (4 - (lg_sl ([.ref (ma 0), .int a, .int b, .int d])).length) Slot.unset).toArray = ls at hl ⊢
  have hl : lv_has ls 4 [(0, .ref (ma 0)), (1, .int a), (2, .int b), (3, .int d)] := hl
  refine lv_iload_n hx hb dX7_addRecipe_0 rfl (lv_at hl 1 rfl) ?_
  refine lv_iload_n hx hb dX7_addRecipe_1 rfl (lv_at hl 2 rfl) ?_
  refine lv_iload_n hx hb dX7_addRecipe_2 rfl (lv_at hl 3 rfl) ?_
  refine sc_ro (n := 3) (As := [.int a, .int b, .int d]) (rest := []) (v := [.int (if shP a b d then 1 else 0)]) ⟨hx, hb, hml, hown, hts⟩ (k_isShade la a b d) gX7_addRecipe_X7_isShade rfl rfl rfl (by decide +kernel) ⟨Nat.le_of_ble_eq_true rfl, Nat.le_of_ble_eq_true rfl⟩ rfl hl.1 rfl (Nat.le_of_ble_eq_true rfl) dX7_addRecipe_3 ⟨Nat.zero_le _, Nat.zero_le _⟩ rfl ?_
  refine br_if_ne (c9 := shP a b d) (tgt := 15) hx hb dX7_addRecipe_6 (by decide) (fun c_1 => ?_) (fun c_1 => ?_)
  · refine lv_aload_n hx hb dX7_addRecipe_15 rfl (lv_at hl 0 rfl) ?_
    refine m_get (v := .int (σ 1 0)) hx hb hts hinX7 hown hK hM 1 (by decide) lk108 rfl dX7_addRecipe_16 ?_
    refine lv_bipush (v := 8) hx hb dX7_addRecipe_19 (by decide) ?_
    refine lv_icmp_ne (tgt := 30) hx hb dX7_addRecipe_21 (by decide) (fun c_2 => ?_) (fun c_2 => ?_)
    · have kn : vp_in (σ 1 0) 8 := cnt_room hI.1.1 (by decide) (show ¬ σ 1 0 = nI 8 from c_2)
      refine lv_aload_n hx hb dX7_addRecipe_30 rfl (lv_at hl 0 rfl) ?_
      refine lv_iconst (v := 0) hx hb dX7_addRecipe_31 (by decide) ?_
      refine m_put hx hb hA hts hinX7 hown hK hM 0 (by decide) lk84 dX7_addRecipe_32 (fun H locs hM => ?_)
      refine lv_aload_n hx hb dX7_addRecipe_35 rfl (lv_at hl 0 rfl) ?_
      refine m_get (v := .ref (ma 5)) hx hb hts hinX7 hown hK hM 5 (by decide) lk7 rfl dX7_addRecipe_36 ?_
      refine lv_iconst (v := 3) hx hb dX7_addRecipe_39 (by decide) ?_
      refine lv_aload_n hx hb dX7_addRecipe_40 rfl (lv_at hl 0 rfl) ?_
      refine m_get (v := .int (σ 1 0)) hx hb hts hinX7 hown hK hM 1 (by decide) lk108 rfl dX7_addRecipe_41 ?_
      refine lv_imul hx hb dX7_addRecipe_44 ?_
      refine lv_iload_n hx hb dX7_addRecipe_45 rfl (lv_at hl 1 rfl) ?_
      refine m_iast hx hb hA hK hM 5 (by decide) rfl (i := (3 * (σ 1 0))) (n := 24) (vin_30 kn (by decide) (by decide)).1 dX7_addRecipe_46 (fun H locs hM => ?_)
      refine lv_aload_n hx hb dX7_addRecipe_47 rfl (lv_at hl 0 rfl) ?_
      refine m_get (v := .ref (ma 5)) hx hb hts hinX7 hown hK hM 5 (by decide) lk7 rfl dX7_addRecipe_48 ?_
      refine lv_iconst (v := 3) hx hb dX7_addRecipe_51 (by decide) ?_
      refine lv_aload_n hx hb dX7_addRecipe_52 rfl (lv_at hl 0 rfl) ?_
      refine m_get (v := .int (σ 1 0)) hx hb hts hinX7 hown hK hM 1 (by decide) lk108 rfl dX7_addRecipe_53 ?_
      refine lv_imul hx hb dX7_addRecipe_56 ?_
      refine lv_iconst (v := 1) hx hb dX7_addRecipe_57 (by decide) ?_
      refine lv_iadd hx hb dX7_addRecipe_58 ?_
      refine lv_iload_n hx hb dX7_addRecipe_59 rfl (lv_at hl 2 rfl) ?_
      refine m_iast hx hb hA hK hM 5 (by decide) rfl (i := ((3 * (σ 1 0)) + 1)) (n := 24) (vin_3 1 kn (by decide) (by decide) (by decide)).1 dX7_addRecipe_60 (fun H locs hM => ?_)
      refine lv_aload_n hx hb dX7_addRecipe_61 rfl (lv_at hl 0 rfl) ?_
      refine m_get (v := .ref (ma 5)) hx hb hts hinX7 hown hK hM 5 (by decide) lk7 rfl dX7_addRecipe_62 ?_
      refine lv_iconst (v := 3) hx hb dX7_addRecipe_65 (by decide) ?_
      refine lv_aload_n hx hb dX7_addRecipe_66 rfl (lv_at hl 0 rfl) ?_
      refine m_get (v := .int (σ 1 0)) hx hb hts hinX7 hown hK hM 1 (by decide) lk108 rfl dX7_addRecipe_67 ?_
      refine lv_imul hx hb dX7_addRecipe_70 ?_
      refine lv_iconst (v := 2) hx hb dX7_addRecipe_71 (by decide) ?_
      refine lv_iadd hx hb dX7_addRecipe_72 ?_
      refine lv_iload_n hx hb dX7_addRecipe_73 rfl (lv_at hl 3 rfl) ?_
      refine m_iast hx hb hA hK hM 5 (by decide) rfl (i := ((3 * (σ 1 0)) + 2)) (n := 24) (vin_3 2 kn (by decide) (by decide) (by decide)).1 dX7_addRecipe_74 (fun H locs hM => ?_)
      refine lv_aload_n hx hb dX7_addRecipe_75 rfl (lv_at hl 0 rfl) ?_
      refine lv_dup hx hb dX7_addRecipe_76 rfl ?_
      refine m_get (v := .int (σ 1 0)) hx hb hts hinX7 hown hK hM 1 (by decide) lk108 rfl dX7_addRecipe_77 ?_
      refine lv_dup_x1 hx hb dX7_addRecipe_80 rfl rfl ?_
      refine lv_iconst (v := 1) hx hb dX7_addRecipe_81 (by decide) ?_
      refine lv_iadd hx hb dX7_addRecipe_82 ?_
      refine m_put hx hb hA hts hinX7 hown hK hM 1 (by decide) lk108 dX7_addRecipe_83 (fun H locs hM => ?_)
      exact W.iret (v := (σ 1 0)) hx hb hr (fun t ht hW => ⟨congrArg (fun z => Outcome.returned (some (Value.int z))) (by first | rfl | (simp [-Int32.not_lt, -Int32.not_le, okL, okV, okO, okR, okD, isP, shP, F_addRecipe, t_addRecipe, tL, tV, tO, tD, tLV, tN, c_1, c_2]; done) | (simp_all [-Int32.not_lt, -Int32.not_le, okL, okV, okO, okR, okD, isP, shP, F_addRecipe, t_addRecipe, tL, tV, tO, tD, tLV, tN]; done)), by rw [ht]; exact (hM.cg (by first | rfl | (simp [-Int32.not_lt, -Int32.not_le, okL, okV, okO, okR, okD, isP, shP, F_addRecipe, t_addRecipe, tL, tV, tO, tD, tLV, tN, c_1, c_2, up_id]; done) | (simp_all [-Int32.not_lt, -Int32.not_le, okL, okV, okO, okR, okD, isP, shP, F_addRecipe, t_addRecipe, tL, tV, tO, tD, tLV, tN, up_id]; done))).1, by rw [ht]; exact hM.2.1, fun q hq => by rw [ht]; exact hM.2.2.1 q hq⟩) hM.2.2.2 dX7_addRecipe_86
    · refine lv_aload_n hx hb dX7_addRecipe_24 rfl (lv_at hl 0 rfl) ?_
      refine lv_iconst (v := 2) hx hb dX7_addRecipe_25 (by decide) ?_
      refine mc_mu (n := 1) (As := [.int 2]) (rest := []) (v := [.int 0]) ⟨hx, hb, hml, hown, hts⟩ hK hM (k_refuse la g lo ma hA σ u 2 ) gX7_addRecipe_X7_refuse rfl rfl rfl (by decide +kernel) ⟨Nat.le_of_ble_eq_true rfl, Nat.le_of_ble_eq_true rfl⟩ rfl hl.1 rfl (Nat.le_of_ble_eq_true rfl) dX7_addRecipe_26 ⟨Nat.zero_le _, Nat.zero_le _⟩ rfl (fun H locs hM => ?_)
      exact W.iret (v := 0) hx hb hr (fun t ht hW => ⟨congrArg (fun z => Outcome.returned (some (Value.int z))) (by first | rfl | (simp [-Int32.not_lt, -Int32.not_le, okL, okV, okO, okR, okD, isP, shP, F_addRecipe, t_addRecipe, tL, tV, tO, tD, tLV, tN, c_1, c_2]; done) | (simp_all [-Int32.not_lt, -Int32.not_le, okL, okV, okO, okR, okD, isP, shP, F_addRecipe, t_addRecipe, tL, tV, tO, tD, tLV, tN]; done)), by rw [ht]; exact (hM.cg (by first | rfl | (simp [-Int32.not_lt, -Int32.not_le, okL, okV, okO, okR, okD, isP, shP, F_addRecipe, t_addRecipe, tL, tV, tO, tD, tLV, tN, c_1, c_2, up_id]; done) | (simp_all [-Int32.not_lt, -Int32.not_le, okL, okV, okO, okR, okD, isP, shP, F_addRecipe, t_addRecipe, tL, tV, tO, tD, tLV, tN, up_id]; done))).1, by rw [ht]; exact hM.2.1, fun q hq => by rw [ht]; exact hM.2.2.1 q hq⟩) hM.2.2.2 dX7_addRecipe_29
  · refine lv_aload_n hx hb dX7_addRecipe_9 rfl (lv_at hl 0 rfl) ?_
    refine lv_iconst (v := 1) hx hb dX7_addRecipe_10 (by decide) ?_
    refine mc_mu (n := 1) (As := [.int 1]) (rest := []) (v := [.int 0]) ⟨hx, hb, hml, hown, hts⟩ hK hM (k_refuse la g lo ma hA σ u 1 ) gX7_addRecipe_X7_refuse rfl rfl rfl (by decide +kernel) ⟨Nat.le_of_ble_eq_true rfl, Nat.le_of_ble_eq_true rfl⟩ rfl hl.1 rfl (Nat.le_of_ble_eq_true rfl) dX7_addRecipe_11 ⟨Nat.zero_le _, Nat.zero_le _⟩ rfl (fun H locs hM => ?_)
    exact W.iret (v := 0) hx hb hr (fun t ht hW => ⟨congrArg (fun z => Outcome.returned (some (Value.int z))) (by first | rfl | (simp [-Int32.not_lt, -Int32.not_le, okL, okV, okO, okR, okD, isP, shP, F_addRecipe, t_addRecipe, tL, tV, tO, tD, tLV, tN, c_1]; done) | (simp_all [-Int32.not_lt, -Int32.not_le, okL, okV, okO, okR, okD, isP, shP, F_addRecipe, t_addRecipe, tL, tV, tO, tD, tLV, tN]; done)), by rw [ht]; exact (hM.cg (by first | rfl | (simp [-Int32.not_lt, -Int32.not_le, okL, okV, okO, okR, okD, isP, shP, F_addRecipe, t_addRecipe, tL, tV, tO, tD, tLV, tN, c_1, up_id]; done) | (simp_all [-Int32.not_lt, -Int32.not_le, okL, okV, okO, okR, okD, isP, shP, F_addRecipe, t_addRecipe, tL, tV, tO, tD, tLV, tN, up_id]; done))).1, by rw [ht]; exact hM.2.1, fun q hq => by rw [ht]; exact hM.2.2.1 q hq⟩) hM.2.2.2 dX7_addRecipe_14
set_option maxHeartbeats 4000000 in
set_option maxRecDepth 100000 in
theorem k_setDye (la : Launch) (g : EG) (lo : Nat) (ma : Nat → Nat) (hA : MA lo ma) (σ : Sg) (u : Nat → Int64) (r d x : Int32) (hI : INV σ) : Met la yX7_setDye wsX7_setDye ({ frames := 1, cells := 0, slots := 0, locals := 22 } : Room) (va_Pc [.ref (ma 0), .int r, .int d, .int x] (fun U => MR g ma σ u U.heap ∧ KK g U)) (QM (.returned (some (.int (if t_setDye σ r d x = 0 then σ 6 (ti (3 * r + d)) else 0)))) (fun H1 => MR g ma (F_setDye σ r d x) u H1) (mown ma)) 0 0 (fun q => lo ≤ q) := by
  refine Met.ofW (cc := cX7_setDye) (maxL := 5) (ret := (some .int)) (by decide) rfl ?_
  intro p e s m args below meth c s₁ B hml hv
  obtain ⟨rfl, hR0, hK⟩ := hv
  have hx := B.exec
  have hb := B.bytes
  have hr := B.returns
  have hts := atoms_spec (ws := wsX7_setDye) B.pre
  have hown : s.vm.findClass RX7 = some m.cls := findClass_of_methodNamed B.named
  have hlocks := B.notSynchronized
  have hM : MS g lo ma σ u s.heap s.heap [] := MS.start hR0
  have hinX7 : ∀ w ∈ wsX70, w ∈ wsX7_setDye := by decide +kernel
  have lk108 := hts (.fieldLink RX7 108 "DyehouseLedgerModel" "recipes" "I") (by decide +kernel)
  have lk13 := hts (.fieldLink RX7 13 "DyehouseLedgerModel" "grams" "[I") (by decide +kernel)
  have lk84 := hts (.fieldLink RX7 84 "DyehouseLedgerModel" "thrown" "I") (by decide +kernel)
  have hl := lv_entry ([.ref (ma 0), .int r, .int d, .int x]) (n := 5) (Nat.le_of_ble_eq_true rfl)
  rw [lg_entry_eq]
  generalize (lg_sl ([.ref (ma 0), .int r, .int d, .int x]) ++ List.replicate (5 - (lg_sl ([.ref (ma 0), .int r, .int d, .int x])).length) Slot.unset).toArray = ls at hl ⊢
  have hl : lv_has ls 5 [(0, .ref (ma 0)), (1, .int r), (2, .int d), (3, .int x)] := hl
  refine lv_iload_n hx hb dX7_setDye_0 rfl (lv_at hl 1 rfl) ?_
  refine lv_iconst (v := 0) hx hb dX7_setDye_1 (by decide) ?_
  refine lv_aload_n hx hb dX7_setDye_2 rfl (lv_at hl 0 rfl) ?_
  refine m_get (v := .int (σ 1 0)) hx hb hts hinX7 hown hK hM 1 (by decide) lk108 rfl dX7_setDye_3 ?_
  refine lv_iconst (v := 1) hx hb dX7_setDye_6 (by decide) ?_
  refine lv_isub hx hb dX7_setDye_7 ?_
  refine sc_ro (n := 3) (As := [.int r, .int 0, .int ((σ 1 0) - 1)]) (rest := []) (v := [.int (if isP r 0 ((σ 1 0) - 1) then 1 else 0)]) ⟨hx, hb, hml, hown, hts⟩ (k_isIn la r 0 ((σ 1 0) - 1)) gX7_setDye_X7_isIn rfl rfl rfl (by decide +kernel) ⟨Nat.le_of_ble_eq_true rfl, Nat.le_of_ble_eq_true rfl⟩ rfl hl.1 rfl (Nat.le_of_ble_eq_true rfl) dX7_setDye_8 ⟨Nat.zero_le _, Nat.zero_le _⟩ rfl ?_
  refine br_if_ne (c9 := isP r 0 ((σ 1 0) - 1)) (tgt := 20) hx hb dX7_setDye_11 (by decide) (fun c_1 => ?_) (fun c_1 => ?_)
  · have kr := (okR_in hI r).mp c_1
    refine lv_iload_n hx hb dX7_setDye_20 rfl (lv_at hl 2 rfl) ?_
    refine lv_iconst (v := 0) hx hb dX7_setDye_21 (by decide) ?_
    refine lv_iconst (v := 2) hx hb dX7_setDye_22 (by decide) ?_
    refine sc_ro (n := 3) (As := [.int d, .int 0, .int 2]) (rest := []) (v := [.int (if isP d 0 2 then 1 else 0)]) ⟨hx, hb, hml, hown, hts⟩ (k_isIn la d 0 2) gX7_setDye_X7_isIn rfl rfl rfl (by decide +kernel) ⟨Nat.le_of_ble_eq_true rfl, Nat.le_of_ble_eq_true rfl⟩ rfl hl.1 rfl (Nat.le_of_ble_eq_true rfl) dX7_setDye_23 ⟨Nat.zero_le _, Nat.zero_le _⟩ rfl ?_
    refine br_if_eq (c9 := isP d 0 2) (tgt := 40) hx hb dX7_setDye_26 (by decide) (fun c_2 => ?_) (fun c_2 => ?_)
    · refine lv_aload_n hx hb dX7_setDye_40 rfl (lv_at hl 0 rfl) ?_
      refine lv_iconst (v := 2) hx hb dX7_setDye_41 (by decide) ?_
      refine mc_mu (n := 1) (As := [.int 2]) (rest := []) (v := [.int 0]) ⟨hx, hb, hml, hown, hts⟩ hK hM (k_refuse la g lo ma hA σ u 2 ) gX7_setDye_X7_refuse rfl rfl rfl (by decide +kernel) ⟨Nat.le_of_ble_eq_true rfl, Nat.le_of_ble_eq_true rfl⟩ rfl hl.1 rfl (Nat.le_of_ble_eq_true rfl) dX7_setDye_42 ⟨Nat.zero_le _, Nat.zero_le _⟩ rfl (fun H locs hM => ?_)
      exact W.iret (v := 0) hx hb hr (fun t ht hW => ⟨congrArg (fun z => Outcome.returned (some (Value.int z))) (by first | rfl | (simp [-Int32.not_lt, -Int32.not_le, okL, okV, okO, okR, okD, isP, shP, F_setDye, t_setDye, tL, tV, tO, tD, tLV, tN, c_1, c_2]; done) | (simp_all [-Int32.not_lt, -Int32.not_le, okL, okV, okO, okR, okD, isP, shP, F_setDye, t_setDye, tL, tV, tO, tD, tLV, tN]; done)), by rw [ht]; exact (hM.cg (by first | rfl | (simp [-Int32.not_lt, -Int32.not_le, okL, okV, okO, okR, okD, isP, shP, F_setDye, t_setDye, tL, tV, tO, tD, tLV, tN, c_1, c_2, up_id]; done) | (simp_all [-Int32.not_lt, -Int32.not_le, okL, okV, okO, okR, okD, isP, shP, F_setDye, t_setDye, tL, tV, tO, tD, tLV, tN, up_id]; done))).1, by rw [ht]; exact hM.2.1, fun q hq => by rw [ht]; exact hM.2.2.1 q hq⟩) hM.2.2.2 dX7_setDye_45
    · have kd := (okD_in d).mp c_2
      refine lv_iload_n hx hb dX7_setDye_29 rfl (lv_at hl 3 rfl) ?_
      refine lv_iconst (v := 0) hx hb dX7_setDye_30 (by decide) ?_
      refine lv_sipush (v := 5000) hx hb dX7_setDye_31 (by decide) ?_
      refine sc_ro (n := 3) (As := [.int x, .int 0, .int 5000]) (rest := []) (v := [.int (if isP x 0 5000 then 1 else 0)]) ⟨hx, hb, hml, hown, hts⟩ (k_isIn la x 0 5000) gX7_setDye_X7_isIn rfl rfl rfl (by decide +kernel) ⟨Nat.le_of_ble_eq_true rfl, Nat.le_of_ble_eq_true rfl⟩ rfl hl.1 rfl (Nat.le_of_ble_eq_true rfl) dX7_setDye_34 ⟨Nat.zero_le _, Nat.zero_le _⟩ rfl ?_
      refine br_if_ne (c9 := isP x 0 5000) (tgt := 46) hx hb dX7_setDye_37 (by decide) (fun c_3 => ?_) (fun c_3 => ?_)
      · refine lv_aload_n hx hb dX7_setDye_46 rfl (lv_at hl 0 rfl) ?_
        refine lv_iconst (v := 0) hx hb dX7_setDye_47 (by decide) ?_
        refine m_put hx hb hA hts hinX7 hown hK hM 0 (by decide) lk84 dX7_setDye_48 (fun H locs hM => ?_)
        refine lv_aload_n hx hb dX7_setDye_51 rfl (lv_at hl 0 rfl) ?_
        refine m_get (v := .ref (ma 6)) hx hb hts hinX7 hown hK hM 6 (by decide) lk13 rfl dX7_setDye_52 ?_
        refine lv_iconst (v := 3) hx hb dX7_setDye_55 (by decide) ?_
        refine lv_iload_n hx hb dX7_setDye_56 rfl (lv_at hl 1 rfl) ?_
        refine lv_imul hx hb dX7_setDye_57 ?_
        refine lv_iload_n hx hb dX7_setDye_58 rfl (lv_at hl 2 rfl) ?_
        refine lv_iadd hx hb dX7_setDye_59 ?_
        refine m_iald (x := (σ 6 (ti ((3 * r) + d)))) hx hb hK hM 6 (by decide) rfl (i := ((3 * r) + d)) (n := 24) (vin_3d (rec8 hI kr) (by decide) (by decide) kd).1 rfl dX7_setDye_60 ?_
        refine lv_istore (lv' := [(4, .int (σ 6 (ti ((3 * r) + d)))), (0, .ref (ma 0)), (1, .int r), (2, .int d), (3, .int x)]) hx hb dX7_setDye_61 hl (by decide) rfl (fun ls hl => ?_)
        refine lv_aload_n hx hb dX7_setDye_63 rfl (lv_at hl 1 rfl) ?_
        refine m_get (v := .ref (ma 6)) hx hb hts hinX7 hown hK hM 6 (by decide) lk13 rfl dX7_setDye_64 ?_
        refine lv_iconst (v := 3) hx hb dX7_setDye_67 (by decide) ?_
        refine lv_iload_n hx hb dX7_setDye_68 rfl (lv_at hl 2 rfl) ?_
        refine lv_imul hx hb dX7_setDye_69 ?_
        refine lv_iload_n hx hb dX7_setDye_70 rfl (lv_at hl 3 rfl) ?_
        refine lv_iadd hx hb dX7_setDye_71 ?_
        refine lv_iload_n hx hb dX7_setDye_72 rfl (lv_at hl 4 rfl) ?_
        refine m_iast hx hb hA hK hM 6 (by decide) rfl (i := ((3 * r) + d)) (n := 24) (vin_3d (rec8 hI kr) (by decide) (by decide) kd).1 dX7_setDye_73 (fun H locs hM => ?_)
        refine lv_iload hx hb dX7_setDye_74 (lv_at hl 0 rfl) ?_
        exact W.iret (v := (σ 6 (ti ((3 * r) + d)))) hx hb hr (fun t ht hW => ⟨congrArg (fun z => Outcome.returned (some (Value.int z))) (by first | rfl | (simp [-Int32.not_lt, -Int32.not_le, okL, okV, okO, okR, okD, isP, shP, F_setDye, t_setDye, tL, tV, tO, tD, tLV, tN, c_1, c_2, c_3]; done) | (simp_all [-Int32.not_lt, -Int32.not_le, okL, okV, okO, okR, okD, isP, shP, F_setDye, t_setDye, tL, tV, tO, tD, tLV, tN]; done)), by rw [ht]; exact (hM.cg (by first | rfl | (simp [-Int32.not_lt, -Int32.not_le, okL, okV, okO, okR, okD, isP, shP, F_setDye, t_setDye, tL, tV, tO, tD, tLV, tN, c_1, c_2, c_3, up_id]; done) | (simp_all [-Int32.not_lt, -Int32.not_le, okL, okV, okO, okR, okD, isP, shP, F_setDye, t_setDye, tL, tV, tO, tD, tLV, tN, up_id]; done))).1, by rw [ht]; exact hM.2.1, fun q hq => by rw [ht]; exact hM.2.2.1 q hq⟩) hM.2.2.2 dX7_setDye_76
      · refine lv_aload_n hx hb dX7_setDye_40 rfl (lv_at hl 0 rfl) ?_
        refine lv_iconst (v := 2) hx hb dX7_setDye_41 (by decide) ?_
        refine mc_mu (n := 1) (As := [.int 2]) (rest := []) (v := [.int 0]) ⟨hx, hb, hml, hown, hts⟩ hK hM (k_refuse la g lo ma hA σ u 2 ) gX7_setDye_X7_refuse rfl rfl rfl (by decide +kernel) ⟨Nat.le_of_ble_eq_true rfl, Nat.le_of_ble_eq_true rfl⟩ rfl hl.1 rfl (Nat.le_of_ble_eq_true rfl) dX7_setDye_42 ⟨Nat.zero_le _, Nat.zero_le _⟩ rfl (fun H locs hM => ?_)
        exact W.iret (v := 0) hx hb hr (fun t ht hW => ⟨congrArg (fun z => Outcome.returned (some (Value.int z))) (by first | rfl | (simp [-Int32.not_lt, -Int32.not_le, okL, okV, okO, okR, okD, isP, shP, F_setDye, t_setDye, tL, tV, tO, tD, tLV, tN, c_1, c_2, c_3]; done) | (simp_all [-Int32.not_lt, -Int32.not_le, okL, okV, okO, okR, okD, isP, shP, F_setDye, t_setDye, tL, tV, tO, tD, tLV, tN]; done)), by rw [ht]; exact (hM.cg (by first | rfl | (simp [-Int32.not_lt, -Int32.not_le, okL, okV, okO, okR, okD, isP, shP, F_setDye, t_setDye, tL, tV, tO, tD, tLV, tN, c_1, c_2, c_3, up_id]; done) | (simp_all [-Int32.not_lt, -Int32.not_le, okL, okV, okO, okR, okD, isP, shP, F_setDye, t_setDye, tL, tV, tO, tD, tLV, tN, up_id]; done))).1, by rw [ht]; exact hM.2.1, fun q hq => by rw [ht]; exact hM.2.2.1 q hq⟩) hM.2.2.2 dX7_setDye_45
  · refine lv_aload_n hx hb dX7_setDye_14 rfl (lv_at hl 0 rfl) ?_
    refine lv_iconst (v := 1) hx hb dX7_setDye_15 (by decide) ?_
    refine mc_mu (n := 1) (As := [.int 1]) (rest := []) (v := [.int 0]) ⟨hx, hb, hml, hown, hts⟩ hK hM (k_refuse la g lo ma hA σ u 1 ) gX7_setDye_X7_refuse rfl rfl rfl (by decide +kernel) ⟨Nat.le_of_ble_eq_true rfl, Nat.le_of_ble_eq_true rfl⟩ rfl hl.1 rfl (Nat.le_of_ble_eq_true rfl) dX7_setDye_16 ⟨Nat.zero_le _, Nat.zero_le _⟩ rfl (fun H locs hM => ?_)
    exact W.iret (v := 0) hx hb hr (fun t ht hW => ⟨congrArg (fun z => Outcome.returned (some (Value.int z))) (by first | rfl | (simp [-Int32.not_lt, -Int32.not_le, okL, okV, okO, okR, okD, isP, shP, F_setDye, t_setDye, tL, tV, tO, tD, tLV, tN, c_1]; done) | (simp_all [-Int32.not_lt, -Int32.not_le, okL, okV, okO, okR, okD, isP, shP, F_setDye, t_setDye, tL, tV, tO, tD, tLV, tN]; done)), by rw [ht]; exact (hM.cg (by first | rfl | (simp [-Int32.not_lt, -Int32.not_le, okL, okV, okO, okR, okD, isP, shP, F_setDye, t_setDye, tL, tV, tO, tD, tLV, tN, c_1, up_id]; done) | (simp_all [-Int32.not_lt, -Int32.not_le, okL, okV, okO, okR, okD, isP, shP, F_setDye, t_setDye, tL, tV, tO, tD, tLV, tN, up_id]; done))).1, by rw [ht]; exact hM.2.1, fun q hq => by rw [ht]; exact hM.2.2.1 q hq⟩) hM.2.2.2 dX7_setDye_19
set_option maxHeartbeats 4000000 in
set_option maxRecDepth 100000 in
theorem k_supply (la : Launch) (g : EG) (lo : Nat) (ma : Nat → Nat) (hA : MA lo ma) (σ : Sg) (u : Nat → Int64) (d x : Int32) (hI : INV σ) : Met la yX7_supply wsX7_supply ({ frames := 1, cells := 0, slots := 0, locals := 22 } : Room) (va_Pc [.ref (ma 0), .int d, .int x] (fun U => MR g ma σ u U.heap ∧ KK g U)) (QM (.returned (some (.int (if t_supply σ d x = 0 then σ 7 (ti d) + x else 0)))) (fun H1 => MR g ma (F_supply σ d x) u H1) (mown ma)) 0 0 (fun q => lo ≤ q) := by
  refine Met.ofW (cc := cX7_supply) (maxL := 3) (ret := (some .int)) (by decide) rfl ?_
  intro p e s m args below meth c s₁ B hml hv
  obtain ⟨rfl, hR0, hK⟩ := hv
  have hx := B.exec
  have hb := B.bytes
  have hr := B.returns
  have hts := atoms_spec (ws := wsX7_supply) B.pre
  have hown : s.vm.findClass RX7 = some m.cls := findClass_of_methodNamed B.named
  have hlocks := B.notSynchronized
  have hM : MS g lo ma σ u s.heap s.heap [] := MS.start hR0
  have hinX7 : ∀ w ∈ wsX70, w ∈ wsX7_supply := by decide +kernel
  have ck111 := hts (.constant RX7 111 (99999)) (by decide +kernel)
  have ck112 := hts (.constant RX7 112 (9999999)) (by decide +kernel)
  have lk16 := hts (.fieldLink RX7 16 "DyehouseLedgerModel" "stock" "[I") (by decide +kernel)
  have lk84 := hts (.fieldLink RX7 84 "DyehouseLedgerModel" "thrown" "I") (by decide +kernel)
  have hl := lv_entry ([.ref (ma 0), .int d, .int x]) (n := 3) (Nat.le_of_ble_eq_true rfl)
  rw [lg_entry_eq]
  generalize (lg_sl ([.ref (ma 0), .int d, .int x]) ++ List.replicate (3 - (lg_sl ([.ref (ma 0), .int d, .int x])).length) Slot.unset).toArray = ls at hl ⊢
  have hl : lv_has ls 3 [(0, .ref (ma 0)), (1, .int d), (2, .int x)] := hl
  refine lv_iload_n hx hb dX7_supply_0 rfl (lv_at hl 1 rfl) ?_
  refine lv_iconst (v := 0) hx hb dX7_supply_1 (by decide) ?_
  refine lv_iconst (v := 2) hx hb dX7_supply_2 (by decide) ?_
  refine sc_ro (n := 3) (As := [.int d, .int 0, .int 2]) (rest := []) (v := [.int (if isP d 0 2 then 1 else 0)]) ⟨hx, hb, hml, hown, hts⟩ (k_isIn la d 0 2) gX7_supply_X7_isIn rfl rfl rfl (by decide +kernel) ⟨Nat.le_of_ble_eq_true rfl, Nat.le_of_ble_eq_true rfl⟩ rfl hl.1 rfl (Nat.le_of_ble_eq_true rfl) dX7_supply_3 ⟨Nat.zero_le _, Nat.zero_le _⟩ rfl ?_
  refine br_if_eq (c9 := isP d 0 2) (tgt := 19) hx hb dX7_supply_6 (by decide) (fun c_1 => ?_) (fun c_1 => ?_)
  · refine lv_aload_n hx hb dX7_supply_19 rfl (lv_at hl 0 rfl) ?_
    refine lv_iconst (v := 1) hx hb dX7_supply_20 (by decide) ?_
    refine mc_mu (n := 1) (As := [.int 1]) (rest := []) (v := [.int 0]) ⟨hx, hb, hml, hown, hts⟩ hK hM (k_refuse la g lo ma hA σ u 1 ) gX7_supply_X7_refuse rfl rfl rfl (by decide +kernel) ⟨Nat.le_of_ble_eq_true rfl, Nat.le_of_ble_eq_true rfl⟩ rfl hl.1 rfl (Nat.le_of_ble_eq_true rfl) dX7_supply_21 ⟨Nat.zero_le _, Nat.zero_le _⟩ rfl (fun H locs hM => ?_)
    exact W.iret (v := 0) hx hb hr (fun t ht hW => ⟨congrArg (fun z => Outcome.returned (some (Value.int z))) (by first | rfl | (simp [-Int32.not_lt, -Int32.not_le, okL, okV, okO, okR, okD, isP, shP, F_supply, t_supply, tL, tV, tO, tD, tLV, tN, c_1]; done) | (simp_all [-Int32.not_lt, -Int32.not_le, okL, okV, okO, okR, okD, isP, shP, F_supply, t_supply, tL, tV, tO, tD, tLV, tN]; done)), by rw [ht]; exact (hM.cg (by first | rfl | (simp [-Int32.not_lt, -Int32.not_le, okL, okV, okO, okR, okD, isP, shP, F_supply, t_supply, tL, tV, tO, tD, tLV, tN, c_1, up_id]; done) | (simp_all [-Int32.not_lt, -Int32.not_le, okL, okV, okO, okR, okD, isP, shP, F_supply, t_supply, tL, tV, tO, tD, tLV, tN, up_id]; done))).1, by rw [ht]; exact hM.2.1, fun q hq => by rw [ht]; exact hM.2.2.1 q hq⟩) hM.2.2.2 dX7_supply_24
  · have kd := (okD_in d).mp c_1
    refine lv_iload_n hx hb dX7_supply_9 rfl (lv_at hl 2 rfl) ?_
    refine lv_iconst (v := 1) hx hb dX7_supply_10 (by decide) ?_
    refine lv_ldc (v := 99999) hx hb hown ck111 dX7_supply_11 ?_
    refine sc_ro (n := 3) (As := [.int x, .int 1, .int 99999]) (rest := []) (v := [.int (if isP x 1 99999 then 1 else 0)]) ⟨hx, hb, hml, hown, hts⟩ (k_isIn la x 1 99999) gX7_supply_X7_isIn rfl rfl rfl (by decide +kernel) ⟨Nat.le_of_ble_eq_true rfl, Nat.le_of_ble_eq_true rfl⟩ rfl hl.1 rfl (Nat.le_of_ble_eq_true rfl) dX7_supply_13 ⟨Nat.zero_le _, Nat.zero_le _⟩ rfl ?_
    refine br_if_ne (c9 := isP x 1 99999) (tgt := 25) hx hb dX7_supply_16 (by decide) (fun c_2 => ?_) (fun c_2 => ?_)
    · refine lv_aload_n hx hb dX7_supply_25 rfl (lv_at hl 0 rfl) ?_
      refine m_get (v := .ref (ma 7)) hx hb hts hinX7 hown hK hM 7 (by decide) lk16 rfl dX7_supply_26 ?_
      refine lv_iload_n hx hb dX7_supply_29 rfl (lv_at hl 1 rfl) ?_
      refine m_iald (x := (σ 7 (ti d))) hx hb hK hM 7 (by decide) rfl (i := d) (n := 3) kd rfl dX7_supply_30 ?_
      refine lv_iload_n hx hb dX7_supply_31 rfl (lv_at hl 2 rfl) ?_
      refine lv_iadd hx hb dX7_supply_32 ?_
      refine lv_ldc (v := 9999999) hx hb hown ck112 dX7_supply_33 ?_
      refine lv_icmp_le (tgt := 44) hx hb dX7_supply_35 (by decide) (fun c_3 => ?_) (fun c_3 => ?_)
      · replace c_3 := Int32.not_lt.mpr c_3
        refine lv_aload_n hx hb dX7_supply_44 rfl (lv_at hl 0 rfl) ?_
        refine lv_iconst (v := 0) hx hb dX7_supply_45 (by decide) ?_
        refine m_put hx hb hA hts hinX7 hown hK hM 0 (by decide) lk84 dX7_supply_46 (fun H locs hM => ?_)
        refine lv_aload_n hx hb dX7_supply_49 rfl (lv_at hl 0 rfl) ?_
        refine m_get (v := .ref (ma 7)) hx hb hts hinX7 hown hK hM 7 (by decide) lk16 rfl dX7_supply_50 ?_
        refine lv_iload_n hx hb dX7_supply_53 rfl (lv_at hl 1 rfl) ?_
        refine lv_dup2_11 hx hb dX7_supply_54 rfl rfl ?_
        refine m_iald (x := (σ 7 (ti d))) hx hb hK hM 7 (by decide) rfl (i := d) (n := 3) kd rfl dX7_supply_55 ?_
        refine lv_iload_n hx hb dX7_supply_56 rfl (lv_at hl 2 rfl) ?_
        refine lv_iadd hx hb dX7_supply_57 ?_
        refine m_iast hx hb hA hK hM 7 (by decide) rfl (i := d) (n := 3) kd dX7_supply_58 (fun H locs hM => ?_)
        refine lv_aload_n hx hb dX7_supply_59 rfl (lv_at hl 0 rfl) ?_
        refine m_get (v := .ref (ma 7)) hx hb hts hinX7 hown hK hM 7 (by decide) lk16 rfl dX7_supply_60 ?_
        refine lv_iload_n hx hb dX7_supply_63 rfl (lv_at hl 1 rfl) ?_
        refine m_iald (x := ((σ 7 (ti d)) + x)) hx hb hK hM 7 (by decide) rfl (i := d) (n := 3) kd (by simp [up, upd]) dX7_supply_64 ?_
        exact W.iret (v := ((σ 7 (ti d)) + x)) hx hb hr (fun t ht hW => ⟨congrArg (fun z => Outcome.returned (some (Value.int z))) (by first | rfl | (simp [-Int32.not_lt, -Int32.not_le, okL, okV, okO, okR, okD, isP, shP, F_supply, t_supply, tL, tV, tO, tD, tLV, tN, c_1, c_2, c_3]; done) | (simp_all [-Int32.not_lt, -Int32.not_le, okL, okV, okO, okR, okD, isP, shP, F_supply, t_supply, tL, tV, tO, tD, tLV, tN]; done)), by rw [ht]; exact (hM.cg (by first | rfl | (simp [-Int32.not_lt, -Int32.not_le, okL, okV, okO, okR, okD, isP, shP, F_supply, t_supply, tL, tV, tO, tD, tLV, tN, c_1, c_2, c_3, up_id]; done) | (simp_all [-Int32.not_lt, -Int32.not_le, okL, okV, okO, okR, okD, isP, shP, F_supply, t_supply, tL, tV, tO, tD, tLV, tN, up_id]; done))).1, by rw [ht]; exact hM.2.1, fun q hq => by rw [ht]; exact hM.2.2.1 q hq⟩) hM.2.2.2 dX7_supply_65
      · replace c_3 := Int32.not_le.mp c_3
        refine lv_aload_n hx hb dX7_supply_38 rfl (lv_at hl 0 rfl) ?_
        refine lv_iconst (v := 2) hx hb dX7_supply_39 (by decide) ?_
        refine mc_mu (n := 1) (As := [.int 2]) (rest := []) (v := [.int 0]) ⟨hx, hb, hml, hown, hts⟩ hK hM (k_refuse la g lo ma hA σ u 2 ) gX7_supply_X7_refuse rfl rfl rfl (by decide +kernel) ⟨Nat.le_of_ble_eq_true rfl, Nat.le_of_ble_eq_true rfl⟩ rfl hl.1 rfl (Nat.le_of_ble_eq_true rfl) dX7_supply_40 ⟨Nat.zero_le _, Nat.zero_le _⟩ rfl (fun H locs hM => ?_)
        exact W.iret (v := 0) hx hb hr (fun t ht hW => ⟨congrArg (fun z => Outcome.returned (some (Value.int z))) (by first | rfl | (simp [-Int32.not_lt, -Int32.not_le, okL, okV, okO, okR, okD, isP, shP, F_supply, t_supply, tL, tV, tO, tD, tLV, tN, c_1, c_2, c_3]; done) | (simp_all [-Int32.not_lt, -Int32.not_le, okL, okV, okO, okR, okD, isP, shP, F_supply, t_supply, tL, tV, tO, tD, tLV, tN]; done)), by rw [ht]; exact (hM.cg (by first | rfl | (simp [-Int32.not_lt, -Int32.not_le, okL, okV, okO, okR, okD, isP, shP, F_supply, t_supply, tL, tV, tO, tD, tLV, tN, c_1, c_2, c_3, up_id]; done) | (simp_all [-Int32.not_lt, -Int32.not_le, okL, okV, okO, okR, okD, isP, shP, F_supply, t_supply, tL, tV, tO, tD, tLV, tN, up_id]; done))).1, by rw [ht]; exact hM.2.1, fun q hq => by rw [ht]; exact hM.2.2.1 q hq⟩) hM.2.2.2 dX7_supply_43
    · refine lv_aload_n hx hb dX7_supply_19 rfl (lv_at hl 0 rfl) ?_
      refine lv_iconst (v := 1) hx hb dX7_supply_20 (by decide) ?_
      refine mc_mu (n := 1) (As := [.int 1]) (rest := []) (v := [.int 0]) ⟨hx, hb, hml, hown, hts⟩ hK hM (k_refuse la g lo ma hA σ u 1 ) gX7_supply_X7_refuse rfl rfl rfl (by decide +kernel) ⟨Nat.le_of_ble_eq_true rfl, Nat.le_of_ble_eq_true rfl⟩ rfl hl.1 rfl (Nat.le_of_ble_eq_true rfl) dX7_supply_21 ⟨Nat.zero_le _, Nat.zero_le _⟩ rfl (fun H locs hM => ?_)
      exact W.iret (v := 0) hx hb hr (fun t ht hW => ⟨congrArg (fun z => Outcome.returned (some (Value.int z))) (by first | rfl | (simp [-Int32.not_lt, -Int32.not_le, okL, okV, okO, okR, okD, isP, shP, F_supply, t_supply, tL, tV, tO, tD, tLV, tN, c_1, c_2]; done) | (simp_all [-Int32.not_lt, -Int32.not_le, okL, okV, okO, okR, okD, isP, shP, F_supply, t_supply, tL, tV, tO, tD, tLV, tN]; done)), by rw [ht]; exact (hM.cg (by first | rfl | (simp [-Int32.not_lt, -Int32.not_le, okL, okV, okO, okR, okD, isP, shP, F_supply, t_supply, tL, tV, tO, tD, tLV, tN, c_1, c_2, up_id]; done) | (simp_all [-Int32.not_lt, -Int32.not_le, okL, okV, okO, okR, okD, isP, shP, F_supply, t_supply, tL, tV, tO, tD, tLV, tN, up_id]; done))).1, by rw [ht]; exact hM.2.1, fun q hq => by rw [ht]; exact hM.2.2.1 q hq⟩) hM.2.2.2 dX7_supply_24
set_option maxHeartbeats 4000000 in
set_option maxRecDepth 100000 in
theorem k_addOrder (la : Launch) (g : EG) (lo : Nat) (ma : Nat → Nat) (hA : MA lo ma) (σ : Sg) (u : Nat → Int64) (w9 r b d x : Int32) (hI : INV σ) : Met la yX7_addOrder wsX7_addOrder ({ frames := 1, cells := 0, slots := 0, locals := 22 } : Room) (va_Pc [.ref (ma 0), .int w9, .int r, .int b, .int d, .int x] (fun U => MR g ma σ u U.heap ∧ KK g U)) (QM (.returned (some (.int (if t_addOrder σ w9 r b d x = 0 then σ 2 0 else 0)))) (fun H1 => MR g ma (F_addOrder σ w9 r b d x) u H1) (mown ma)) 0 0 (fun q => lo ≤ q) := by
  refine Met.ofW (cc := cX7_addOrder) (maxL := 6) (ret := (some .int)) (by decide) rfl ?_
  intro p e s m args below meth c s₁ B hml hv
  obtain ⟨rfl, hR0, hK⟩ := hv
  have hx := B.exec
  have hb := B.bytes
  have hr := B.returns
  have hts := atoms_spec (ws := wsX7_addOrder) B.pre
  have hown : s.vm.findClass RX7 = some m.cls := findClass_of_methodNamed B.named
  have hlocks := B.notSynchronized
  have hM : MS g lo ma σ u s.heap s.heap [] := MS.start hR0
  have hinX7 : ∀ w ∈ wsX70, w ∈ wsX7_addOrder := by decide +kernel
  have lk108 := hts (.fieldLink RX7 108 "DyehouseLedgerModel" "recipes" "I") (by decide +kernel)
  have lk23 := hts (.fieldLink RX7 23 "DyehouseLedgerModel" "customer" "[I") (by decide +kernel)
  have lk26 := hts (.fieldLink RX7 26 "DyehouseLedgerModel" "recipe" "[I") (by decide +kernel)
  have lk29 := hts (.fieldLink RX7 29 "DyehouseLedgerModel" "bound" "[I") (by decide +kernel)
  have lk32 := hts (.fieldLink RX7 32 "DyehouseLedgerModel" "day" "[I") (by decide +kernel)
  have lk35 := hts (.fieldLink RX7 35 "DyehouseLedgerModel" "price" "[I") (by decide +kernel)
  have lk84 := hts (.fieldLink RX7 84 "DyehouseLedgerModel" "thrown" "I") (by decide +kernel)
  have lk98 := hts (.fieldLink RX7 98 "DyehouseLedgerModel" "orders" "I") (by decide +kernel)
  have hl := lv_entry ([.ref (ma 0), .int w9, .int r, .int b, .int d, .int x]) (n := 6) (Nat.le_of_ble_eq_true rfl)
  rw [lg_entry_eq]
  generalize (lg_sl ([.ref (ma 0), .int w9, .int r, .int b, .int d, .int x]) ++ List.replicate (6 - (lg_sl ([.ref (ma 0), .int w9, .int r, .int b, .int d, .int x])).length) Slot.unset).toArray = ls at hl ⊢
  have hl : lv_has ls 6 [(0, .ref (ma 0)), (1, .int w9), (2, .int r), (3, .int b), (4, .int d), (5, .int x)] := hl
  refine lv_iload_n hx hb dX7_addOrder_0 rfl (lv_at hl 2 rfl) ?_
  refine lv_iconst (v := 0) hx hb dX7_addOrder_1 (by decide) ?_
  refine lv_aload_n hx hb dX7_addOrder_2 rfl (lv_at hl 0 rfl) ?_
  refine m_get (v := .int (σ 1 0)) hx hb hts hinX7 hown hK hM 1 (by decide) lk108 rfl dX7_addOrder_3 ?_
  refine lv_iconst (v := 1) hx hb dX7_addOrder_6 (by decide) ?_
  refine lv_isub hx hb dX7_addOrder_7 ?_
  refine sc_ro (n := 3) (As := [.int r, .int 0, .int ((σ 1 0) - 1)]) (rest := []) (v := [.int (if isP r 0 ((σ 1 0) - 1) then 1 else 0)]) ⟨hx, hb, hml, hown, hts⟩ (k_isIn la r 0 ((σ 1 0) - 1)) gX7_addOrder_X7_isIn rfl rfl rfl (by decide +kernel) ⟨Nat.le_of_ble_eq_true rfl, Nat.le_of_ble_eq_true rfl⟩ rfl hl.1 rfl (Nat.le_of_ble_eq_true rfl) dX7_addOrder_8 ⟨Nat.zero_le _, Nat.zero_le _⟩ rfl ?_
  refine br_if_ne (c9 := isP r 0 ((σ 1 0) - 1)) (tgt := 20) hx hb dX7_addOrder_11 (by decide) (fun c_1 => ?_) (fun c_1 => ?_)
  · have kr := (okR_in hI r).mp c_1
    refine lv_iload_n hx hb dX7_addOrder_20 rfl (lv_at hl 1 rfl) ?_
    refine lv_iconst (v := 0) hx hb dX7_addOrder_21 (by decide) ?_
    refine lv_iconst (v := 3) hx hb dX7_addOrder_22 (by decide) ?_
    refine sc_ro (n := 3) (As := [.int w9, .int 0, .int 3]) (rest := []) (v := [.int (if isP w9 0 3 then 1 else 0)]) ⟨hx, hb, hml, hown, hts⟩ (k_isIn la w9 0 3) gX7_addOrder_X7_isIn rfl rfl rfl (by decide +kernel) ⟨Nat.le_of_ble_eq_true rfl, Nat.le_of_ble_eq_true rfl⟩ rfl hl.1 rfl (Nat.le_of_ble_eq_true rfl) dX7_addOrder_23 ⟨Nat.zero_le _, Nat.zero_le _⟩ rfl ?_
    refine br_if_eq (c9 := isP w9 0 3) (tgt := 61) hx hb dX7_addOrder_26 (by decide) (fun c_2 => ?_) (fun c_2 => ?_)
    · refine lv_aload_n hx hb dX7_addOrder_61 rfl (lv_at hl 0 rfl) ?_
      refine lv_iconst (v := 2) hx hb dX7_addOrder_62 (by decide) ?_
      refine mc_mu (n := 1) (As := [.int 2]) (rest := []) (v := [.int 0]) ⟨hx, hb, hml, hown, hts⟩ hK hM (k_refuse la g lo ma hA σ u 2 ) gX7_addOrder_X7_refuse rfl rfl rfl (by decide +kernel) ⟨Nat.le_of_ble_eq_true rfl, Nat.le_of_ble_eq_true rfl⟩ rfl hl.1 rfl (Nat.le_of_ble_eq_true rfl) dX7_addOrder_63 ⟨Nat.zero_le _, Nat.zero_le _⟩ rfl (fun H locs hM => ?_)
      exact W.iret (v := 0) hx hb hr (fun t ht hW => ⟨congrArg (fun z => Outcome.returned (some (Value.int z))) (by first | rfl | (simp [-Int32.not_lt, -Int32.not_le, okL, okV, okO, okR, okD, isP, shP, F_addOrder, t_addOrder, tL, tV, tO, tD, tLV, tN, c_1, c_2]; done) | (simp_all [-Int32.not_lt, -Int32.not_le, okL, okV, okO, okR, okD, isP, shP, F_addOrder, t_addOrder, tL, tV, tO, tD, tLV, tN]; done)), by rw [ht]; exact (hM.cg (by first | rfl | (simp [-Int32.not_lt, -Int32.not_le, okL, okV, okO, okR, okD, isP, shP, F_addOrder, t_addOrder, tL, tV, tO, tD, tLV, tN, c_1, c_2, up_id]; done) | (simp_all [-Int32.not_lt, -Int32.not_le, okL, okV, okO, okR, okD, isP, shP, F_addOrder, t_addOrder, tL, tV, tO, tD, tLV, tN, up_id]; done))).1, by rw [ht]; exact hM.2.1, fun q hq => by rw [ht]; exact hM.2.2.1 q hq⟩) hM.2.2.2 dX7_addOrder_66
    · refine lv_iload_n hx hb dX7_addOrder_29 rfl (lv_at hl 3 rfl) ?_
      refine lv_iconst (v := 0) hx hb dX7_addOrder_30 (by decide) ?_
      refine lv_bipush (v := 30) hx hb dX7_addOrder_31 (by decide) ?_
      refine sc_ro (n := 3) (As := [.int b, .int 0, .int 30]) (rest := []) (v := [.int (if isP b 0 30 then 1 else 0)]) ⟨hx, hb, hml, hown, hts⟩ (k_isIn la b 0 30) gX7_addOrder_X7_isIn rfl rfl rfl (by decide +kernel) ⟨Nat.le_of_ble_eq_true rfl, Nat.le_of_ble_eq_true rfl⟩ rfl hl.1 rfl (Nat.le_of_ble_eq_true rfl) dX7_addOrder_33 ⟨Nat.zero_le _, Nat.zero_le _⟩ rfl ?_
      refine br_if_eq (c9 := isP b 0 30) (tgt := 61) hx hb dX7_addOrder_36 (by decide) (fun c_3 => ?_) (fun c_3 => ?_)
      · refine lv_aload_n hx hb dX7_addOrder_61 rfl (lv_at hl 0 rfl) ?_
        refine lv_iconst (v := 2) hx hb dX7_addOrder_62 (by decide) ?_
        refine mc_mu (n := 1) (As := [.int 2]) (rest := []) (v := [.int 0]) ⟨hx, hb, hml, hown, hts⟩ hK hM (k_refuse la g lo ma hA σ u 2 ) gX7_addOrder_X7_refuse rfl rfl rfl (by decide +kernel) ⟨Nat.le_of_ble_eq_true rfl, Nat.le_of_ble_eq_true rfl⟩ rfl hl.1 rfl (Nat.le_of_ble_eq_true rfl) dX7_addOrder_63 ⟨Nat.zero_le _, Nat.zero_le _⟩ rfl (fun H locs hM => ?_)
        exact W.iret (v := 0) hx hb hr (fun t ht hW => ⟨congrArg (fun z => Outcome.returned (some (Value.int z))) (by first | rfl | (simp [-Int32.not_lt, -Int32.not_le, okL, okV, okO, okR, okD, isP, shP, F_addOrder, t_addOrder, tL, tV, tO, tD, tLV, tN, c_1, c_2, c_3]; done) | (simp_all [-Int32.not_lt, -Int32.not_le, okL, okV, okO, okR, okD, isP, shP, F_addOrder, t_addOrder, tL, tV, tO, tD, tLV, tN]; done)), by rw [ht]; exact (hM.cg (by first | rfl | (simp [-Int32.not_lt, -Int32.not_le, okL, okV, okO, okR, okD, isP, shP, F_addOrder, t_addOrder, tL, tV, tO, tD, tLV, tN, c_1, c_2, c_3, up_id]; done) | (simp_all [-Int32.not_lt, -Int32.not_le, okL, okV, okO, okR, okD, isP, shP, F_addOrder, t_addOrder, tL, tV, tO, tD, tLV, tN, up_id]; done))).1, by rw [ht]; exact hM.2.1, fun q hq => by rw [ht]; exact hM.2.2.1 q hq⟩) hM.2.2.2 dX7_addOrder_66
      · refine lv_iload hx hb dX7_addOrder_39 (lv_at hl 4 rfl) ?_
        refine lv_iconst (v := 0) hx hb dX7_addOrder_41 (by decide) ?_
        refine lv_bipush (v := 99) hx hb dX7_addOrder_42 (by decide) ?_
        refine sc_ro (n := 3) (As := [.int d, .int 0, .int 99]) (rest := []) (v := [.int (if isP d 0 99 then 1 else 0)]) ⟨hx, hb, hml, hown, hts⟩ (k_isIn la d 0 99) gX7_addOrder_X7_isIn rfl rfl rfl (by decide +kernel) ⟨Nat.le_of_ble_eq_true rfl, Nat.le_of_ble_eq_true rfl⟩ rfl hl.1 rfl (Nat.le_of_ble_eq_true rfl) dX7_addOrder_44 ⟨Nat.zero_le _, Nat.zero_le _⟩ rfl ?_
        refine br_if_eq (c9 := isP d 0 99) (tgt := 61) hx hb dX7_addOrder_47 (by decide) (fun c_4 => ?_) (fun c_4 => ?_)
        · refine lv_aload_n hx hb dX7_addOrder_61 rfl (lv_at hl 0 rfl) ?_
          refine lv_iconst (v := 2) hx hb dX7_addOrder_62 (by decide) ?_
          refine mc_mu (n := 1) (As := [.int 2]) (rest := []) (v := [.int 0]) ⟨hx, hb, hml, hown, hts⟩ hK hM (k_refuse la g lo ma hA σ u 2 ) gX7_addOrder_X7_refuse rfl rfl rfl (by decide +kernel) ⟨Nat.le_of_ble_eq_true rfl, Nat.le_of_ble_eq_true rfl⟩ rfl hl.1 rfl (Nat.le_of_ble_eq_true rfl) dX7_addOrder_63 ⟨Nat.zero_le _, Nat.zero_le _⟩ rfl (fun H locs hM => ?_)
          exact W.iret (v := 0) hx hb hr (fun t ht hW => ⟨congrArg (fun z => Outcome.returned (some (Value.int z))) (by first | rfl | (simp [-Int32.not_lt, -Int32.not_le, okL, okV, okO, okR, okD, isP, shP, F_addOrder, t_addOrder, tL, tV, tO, tD, tLV, tN, c_1, c_2, c_3, c_4]; done) | (simp_all [-Int32.not_lt, -Int32.not_le, okL, okV, okO, okR, okD, isP, shP, F_addOrder, t_addOrder, tL, tV, tO, tD, tLV, tN]; done)), by rw [ht]; exact (hM.cg (by first | rfl | (simp [-Int32.not_lt, -Int32.not_le, okL, okV, okO, okR, okD, isP, shP, F_addOrder, t_addOrder, tL, tV, tO, tD, tLV, tN, c_1, c_2, c_3, c_4, up_id]; done) | (simp_all [-Int32.not_lt, -Int32.not_le, okL, okV, okO, okR, okD, isP, shP, F_addOrder, t_addOrder, tL, tV, tO, tD, tLV, tN, up_id]; done))).1, by rw [ht]; exact hM.2.1, fun q hq => by rw [ht]; exact hM.2.2.1 q hq⟩) hM.2.2.2 dX7_addOrder_66
        · refine lv_iload hx hb dX7_addOrder_50 (lv_at hl 5 rfl) ?_
          refine lv_iconst (v := 0) hx hb dX7_addOrder_52 (by decide) ?_
          refine lv_bipush (v := 99) hx hb dX7_addOrder_53 (by decide) ?_
          refine sc_ro (n := 3) (As := [.int x, .int 0, .int 99]) (rest := []) (v := [.int (if isP x 0 99 then 1 else 0)]) ⟨hx, hb, hml, hown, hts⟩ (k_isIn la x 0 99) gX7_addOrder_X7_isIn rfl rfl rfl (by decide +kernel) ⟨Nat.le_of_ble_eq_true rfl, Nat.le_of_ble_eq_true rfl⟩ rfl hl.1 rfl (Nat.le_of_ble_eq_true rfl) dX7_addOrder_55 ⟨Nat.zero_le _, Nat.zero_le _⟩ rfl ?_
          refine br_if_ne (c9 := isP x 0 99) (tgt := 67) hx hb dX7_addOrder_58 (by decide) (fun c_5 => ?_) (fun c_5 => ?_)
          · refine lv_aload_n hx hb dX7_addOrder_67 rfl (lv_at hl 0 rfl) ?_
            refine m_get (v := .int (σ 2 0)) hx hb hts hinX7 hown hK hM 2 (by decide) lk98 rfl dX7_addOrder_68 ?_
            refine lv_bipush (v := 6) hx hb dX7_addOrder_71 (by decide) ?_
            refine lv_icmp_ne (tgt := 82) hx hb dX7_addOrder_73 (by decide) (fun c_6 => ?_) (fun c_6 => ?_)
            · have kn : vp_in (σ 2 0) 6 := cnt_room hI.1.2.1 (by decide) (show ¬ σ 2 0 = nI 6 from c_6)
              refine lv_aload_n hx hb dX7_addOrder_82 rfl (lv_at hl 0 rfl) ?_
              refine lv_iconst (v := 0) hx hb dX7_addOrder_83 (by decide) ?_
              refine m_put hx hb hA hts hinX7 hown hK hM 0 (by decide) lk84 dX7_addOrder_84 (fun H locs hM => ?_)
              refine lv_aload_n hx hb dX7_addOrder_87 rfl (lv_at hl 0 rfl) ?_
              refine m_get (v := .ref (ma 9)) hx hb hts hinX7 hown hK hM 9 (by decide) lk23 rfl dX7_addOrder_88 ?_
              refine lv_aload_n hx hb dX7_addOrder_91 rfl (lv_at hl 0 rfl) ?_
              refine m_get (v := .int (σ 2 0)) hx hb hts hinX7 hown hK hM 2 (by decide) lk98 rfl dX7_addOrder_92 ?_
              refine lv_iload_n hx hb dX7_addOrder_95 rfl (lv_at hl 1 rfl) ?_
              refine m_iast hx hb hA hK hM 9 (by decide) rfl (i := (σ 2 0)) (n := 6) kn dX7_addOrder_96 (fun H locs hM => ?_)
              refine lv_aload_n hx hb dX7_addOrder_97 rfl (lv_at hl 0 rfl) ?_
              refine m_get (v := .ref (ma 10)) hx hb hts hinX7 hown hK hM 10 (by decide) lk26 rfl dX7_addOrder_98 ?_
              refine lv_aload_n hx hb dX7_addOrder_101 rfl (lv_at hl 0 rfl) ?_
              refine m_get (v := .int (σ 2 0)) hx hb hts hinX7 hown hK hM 2 (by decide) lk98 rfl dX7_addOrder_102 ?_
              refine lv_iload_n hx hb dX7_addOrder_105 rfl (lv_at hl 2 rfl) ?_
              refine m_iast hx hb hA hK hM 10 (by decide) rfl (i := (σ 2 0)) (n := 6) kn dX7_addOrder_106 (fun H locs hM => ?_)
              refine lv_aload_n hx hb dX7_addOrder_107 rfl (lv_at hl 0 rfl) ?_
              refine m_get (v := .ref (ma 11)) hx hb hts hinX7 hown hK hM 11 (by decide) lk29 rfl dX7_addOrder_108 ?_
              refine lv_aload_n hx hb dX7_addOrder_111 rfl (lv_at hl 0 rfl) ?_
              refine m_get (v := .int (σ 2 0)) hx hb hts hinX7 hown hK hM 2 (by decide) lk98 rfl dX7_addOrder_112 ?_
              refine lv_iload_n hx hb dX7_addOrder_115 rfl (lv_at hl 3 rfl) ?_
              refine m_iast hx hb hA hK hM 11 (by decide) rfl (i := (σ 2 0)) (n := 6) kn dX7_addOrder_116 (fun H locs hM => ?_)
              refine lv_aload_n hx hb dX7_addOrder_117 rfl (lv_at hl 0 rfl) ?_
              refine m_get (v := .ref (ma 12)) hx hb hts hinX7 hown hK hM 12 (by decide) lk32 rfl dX7_addOrder_118 ?_
              refine lv_aload_n hx hb dX7_addOrder_121 rfl (lv_at hl 0 rfl) ?_
              refine m_get (v := .int (σ 2 0)) hx hb hts hinX7 hown hK hM 2 (by decide) lk98 rfl dX7_addOrder_122 ?_
              refine lv_iload hx hb dX7_addOrder_125 (lv_at hl 4 rfl) ?_
              refine m_iast hx hb hA hK hM 12 (by decide) rfl (i := (σ 2 0)) (n := 6) kn dX7_addOrder_127 (fun H locs hM => ?_)
              refine lv_aload_n hx hb dX7_addOrder_128 rfl (lv_at hl 0 rfl) ?_
              refine m_get (v := .ref (ma 13)) hx hb hts hinX7 hown hK hM 13 (by decide) lk35 rfl dX7_addOrder_129 ?_
              refine lv_aload_n hx hb dX7_addOrder_132 rfl (lv_at hl 0 rfl) ?_
              refine m_get (v := .int (σ 2 0)) hx hb hts hinX7 hown hK hM 2 (by decide) lk98 rfl dX7_addOrder_133 ?_
              refine lv_iload hx hb dX7_addOrder_136 (lv_at hl 5 rfl) ?_
              refine m_iast hx hb hA hK hM 13 (by decide) rfl (i := (σ 2 0)) (n := 6) kn dX7_addOrder_138 (fun H locs hM => ?_)
              refine lv_aload_n hx hb dX7_addOrder_139 rfl (lv_at hl 0 rfl) ?_
              refine lv_dup hx hb dX7_addOrder_140 rfl ?_
              refine m_get (v := .int (σ 2 0)) hx hb hts hinX7 hown hK hM 2 (by decide) lk98 rfl dX7_addOrder_141 ?_
              refine lv_dup_x1 hx hb dX7_addOrder_144 rfl rfl ?_
              refine lv_iconst (v := 1) hx hb dX7_addOrder_145 (by decide) ?_
              refine lv_iadd hx hb dX7_addOrder_146 ?_
              refine m_put hx hb hA hts hinX7 hown hK hM 2 (by decide) lk98 dX7_addOrder_147 (fun H locs hM => ?_)
              exact W.iret (v := (σ 2 0)) hx hb hr (fun t ht hW => ⟨congrArg (fun z => Outcome.returned (some (Value.int z))) (by first | rfl | (simp [-Int32.not_lt, -Int32.not_le, okL, okV, okO, okR, okD, isP, shP, F_addOrder, t_addOrder, tL, tV, tO, tD, tLV, tN, c_1, c_2, c_3, c_4, c_5, c_6]; done) | (simp_all [-Int32.not_lt, -Int32.not_le, okL, okV, okO, okR, okD, isP, shP, F_addOrder, t_addOrder, tL, tV, tO, tD, tLV, tN]; done)), by rw [ht]; exact (hM.cg (by first | rfl | (simp [-Int32.not_lt, -Int32.not_le, okL, okV, okO, okR, okD, isP, shP, F_addOrder, t_addOrder, tL, tV, tO, tD, tLV, tN, c_1, c_2, c_3, c_4, c_5, c_6, up_id]; done) | (simp_all [-Int32.not_lt, -Int32.not_le, okL, okV, okO, okR, okD, isP, shP, F_addOrder, t_addOrder, tL, tV, tO, tD, tLV, tN, up_id]; done))).1, by rw [ht]; exact hM.2.1, fun q hq => by rw [ht]; exact hM.2.2.1 q hq⟩) hM.2.2.2 dX7_addOrder_150
            · refine lv_aload_n hx hb dX7_addOrder_76 rfl (lv_at hl 0 rfl) ?_
              refine lv_iconst (v := 3) hx hb dX7_addOrder_77 (by decide) ?_
              refine mc_mu (n := 1) (As := [.int 3]) (rest := []) (v := [.int 0]) ⟨hx, hb, hml, hown, hts⟩ hK hM (k_refuse la g lo ma hA σ u 3 ) gX7_addOrder_X7_refuse rfl rfl rfl (by decide +kernel) ⟨Nat.le_of_ble_eq_true rfl, Nat.le_of_ble_eq_true rfl⟩ rfl hl.1 rfl (Nat.le_of_ble_eq_true rfl) dX7_addOrder_78 ⟨Nat.zero_le _, Nat.zero_le _⟩ rfl (fun H locs hM => ?_)
              exact W.iret (v := 0) hx hb hr (fun t ht hW => ⟨congrArg (fun z => Outcome.returned (some (Value.int z))) (by first | rfl | (simp [-Int32.not_lt, -Int32.not_le, okL, okV, okO, okR, okD, isP, shP, F_addOrder, t_addOrder, tL, tV, tO, tD, tLV, tN, c_1, c_2, c_3, c_4, c_5, c_6]; done) | (simp_all [-Int32.not_lt, -Int32.not_le, okL, okV, okO, okR, okD, isP, shP, F_addOrder, t_addOrder, tL, tV, tO, tD, tLV, tN]; done)), by rw [ht]; exact (hM.cg (by first | rfl | (simp [-Int32.not_lt, -Int32.not_le, okL, okV, okO, okR, okD, isP, shP, F_addOrder, t_addOrder, tL, tV, tO, tD, tLV, tN, c_1, c_2, c_3, c_4, c_5, c_6, up_id]; done) | (simp_all [-Int32.not_lt, -Int32.not_le, okL, okV, okO, okR, okD, isP, shP, F_addOrder, t_addOrder, tL, tV, tO, tD, tLV, tN, up_id]; done))).1, by rw [ht]; exact hM.2.1, fun q hq => by rw [ht]; exact hM.2.2.1 q hq⟩) hM.2.2.2 dX7_addOrder_81
          · refine lv_aload_n hx hb dX7_addOrder_61 rfl (lv_at hl 0 rfl) ?_
            refine lv_iconst (v := 2) hx hb dX7_addOrder_62 (by decide) ?_
            refine mc_mu (n := 1) (As := [.int 2]) (rest := []) (v := [.int 0]) ⟨hx, hb, hml, hown, hts⟩ hK hM (k_refuse la g lo ma hA σ u 2 ) gX7_addOrder_X7_refuse rfl rfl rfl (by decide +kernel) ⟨Nat.le_of_ble_eq_true rfl, Nat.le_of_ble_eq_true rfl⟩ rfl hl.1 rfl (Nat.le_of_ble_eq_true rfl) dX7_addOrder_63 ⟨Nat.zero_le _, Nat.zero_le _⟩ rfl (fun H locs hM => ?_)
            exact W.iret (v := 0) hx hb hr (fun t ht hW => ⟨congrArg (fun z => Outcome.returned (some (Value.int z))) (by first | rfl | (simp [-Int32.not_lt, -Int32.not_le, okL, okV, okO, okR, okD, isP, shP, F_addOrder, t_addOrder, tL, tV, tO, tD, tLV, tN, c_1, c_2, c_3, c_4, c_5]; done) | (simp_all [-Int32.not_lt, -Int32.not_le, okL, okV, okO, okR, okD, isP, shP, F_addOrder, t_addOrder, tL, tV, tO, tD, tLV, tN]; done)), by rw [ht]; exact (hM.cg (by first | rfl | (simp [-Int32.not_lt, -Int32.not_le, okL, okV, okO, okR, okD, isP, shP, F_addOrder, t_addOrder, tL, tV, tO, tD, tLV, tN, c_1, c_2, c_3, c_4, c_5, up_id]; done) | (simp_all [-Int32.not_lt, -Int32.not_le, okL, okV, okO, okR, okD, isP, shP, F_addOrder, t_addOrder, tL, tV, tO, tD, tLV, tN, up_id]; done))).1, by rw [ht]; exact hM.2.1, fun q hq => by rw [ht]; exact hM.2.2.1 q hq⟩) hM.2.2.2 dX7_addOrder_66
  · refine lv_aload_n hx hb dX7_addOrder_14 rfl (lv_at hl 0 rfl) ?_
    refine lv_iconst (v := 1) hx hb dX7_addOrder_15 (by decide) ?_
    refine mc_mu (n := 1) (As := [.int 1]) (rest := []) (v := [.int 0]) ⟨hx, hb, hml, hown, hts⟩ hK hM (k_refuse la g lo ma hA σ u 1 ) gX7_addOrder_X7_refuse rfl rfl rfl (by decide +kernel) ⟨Nat.le_of_ble_eq_true rfl, Nat.le_of_ble_eq_true rfl⟩ rfl hl.1 rfl (Nat.le_of_ble_eq_true rfl) dX7_addOrder_16 ⟨Nat.zero_le _, Nat.zero_le _⟩ rfl (fun H locs hM => ?_)
    exact W.iret (v := 0) hx hb hr (fun t ht hW => ⟨congrArg (fun z => Outcome.returned (some (Value.int z))) (by first | rfl | (simp [-Int32.not_lt, -Int32.not_le, okL, okV, okO, okR, okD, isP, shP, F_addOrder, t_addOrder, tL, tV, tO, tD, tLV, tN, c_1]; done) | (simp_all [-Int32.not_lt, -Int32.not_le, okL, okV, okO, okR, okD, isP, shP, F_addOrder, t_addOrder, tL, tV, tO, tD, tLV, tN]; done)), by rw [ht]; exact (hM.cg (by first | rfl | (simp [-Int32.not_lt, -Int32.not_le, okL, okV, okO, okR, okD, isP, shP, F_addOrder, t_addOrder, tL, tV, tO, tD, tLV, tN, c_1, up_id]; done) | (simp_all [-Int32.not_lt, -Int32.not_le, okL, okV, okO, okR, okD, isP, shP, F_addOrder, t_addOrder, tL, tV, tO, tD, tLV, tN, up_id]; done))).1, by rw [ht]; exact hM.2.1, fun q hq => by rw [ht]; exact hM.2.2.1 q hq⟩) hM.2.2.2 dX7_addOrder_19
set_option maxHeartbeats 4000000 in
set_option maxRecDepth 100000 in
theorem k_addLot (la : Launch) (g : EG) (lo : Nat) (ma : Nat → Nat) (hA : MA lo ma) (σ : Sg) (u : Nat → Int64) (o x : Int32) (hI : INV σ) : Met la yX7_addLot wsX7_addLot ({ frames := 2, cells := 0, slots := 0, locals := 43 } : Room) (va_Pc [.ref (ma 0), .int o, .int x] (fun U => MR g ma σ u U.heap ∧ KK g U)) (QM (.returned (some (.int (if t_addLot σ o x = 0 then σ 3 0 else 0)))) (fun H1 => MR g ma (F_addLot σ o x) u H1) (mown ma)) 0 0 (fun q => lo ≤ q) := by
  refine Met.ofW (cc := cX7_addLot) (maxL := 3) (ret := (some .int)) (by decide) rfl ?_
  intro p e s m args below meth c s₁ B hml hv
  obtain ⟨rfl, hR0, hK⟩ := hv
  have hx := B.exec
  have hb := B.bytes
  have hr := B.returns
  have hts := atoms_spec (ws := wsX7_addLot) B.pre
  have hown : s.vm.findClass RX7 = some m.cls := findClass_of_methodNamed B.named
  have hlocks := B.notSynchronized
  have hM : MS g lo ma σ u s.heap s.heap [] := MS.start hR0
  have hinX7 : ∀ w ∈ wsX70, w ∈ wsX7_addLot := by decide +kernel
  have lk38 := hts (.fieldLink RX7 38 "DyehouseLedgerModel" "order" "[I") (by decide +kernel)
  have lk41 := hts (.fieldLink RX7 41 "DyehouseLedgerModel" "weight" "[I") (by decide +kernel)
  have lk56 := hts (.fieldLink RX7 56 "DyehouseLedgerModel" "plan" "[I") (by decide +kernel)
  have lk59 := hts (.fieldLink RX7 59 "DyehouseLedgerModel" "state" "[C") (by decide +kernel)
  have lk92 := hts (.fieldLink RX7 92 "DyehouseLedgerModel" "lots" "I") (by decide +kernel)
  have hl := lv_entry ([.ref (ma 0), .int o, .int x]) (n := 3) (Nat.le_of_ble_eq_true rfl)
  rw [lg_entry_eq]
  generalize (lg_sl ([.ref (ma 0), .int o, .int x]) ++ List.replicate (3 - (lg_sl ([.ref (ma 0), .int o, .int x])).length) Slot.unset).toArray = ls at hl ⊢
  have hl : lv_has ls 3 [(0, .ref (ma 0)), (1, .int o), (2, .int x)] := hl
  refine lv_aload_n hx hb dX7_addLot_0 rfl (lv_at hl 0 rfl) ?_
  refine lv_iload_n hx hb dX7_addLot_1 rfl (lv_at hl 1 rfl) ?_
  refine mc_mu (n := 1) (As := [.int o]) (rest := []) (v := [.int (if ¬ okO σ o then 1 else 0)]) ⟨hx, hb, hml, hown, hts⟩ hK hM (k_noOrder la g lo ma hA σ u o ) gX7_addLot_X7_noOrder rfl rfl rfl (by decide +kernel) ⟨Nat.le_of_ble_eq_true rfl, Nat.le_of_ble_eq_true rfl⟩ rfl hl.1 rfl (Nat.le_of_ble_eq_true rfl) dX7_addLot_2 ⟨Nat.zero_le _, Nat.zero_le _⟩ rfl (fun H locs hM => ?_)
  refine br_if_eq (c9 := ¬ okO σ o) (tgt := 10) hx hb dX7_addLot_5 (by decide) (fun c_1 => ?_) (fun c_1 => ?_)
  · replace c_1 := Decidable.not_not.mp c_1
    replace hM := hM.cg (congrArg (fun z => up σ 0 0 z) (if_pos c_1))
    have ko := (okO_in hI o).mp c_1
    refine lv_iload_n hx hb dX7_addLot_10 rfl (lv_at hl 2 rfl) ?_
    refine lv_iconst (v := 1) hx hb dX7_addLot_11 (by decide) ?_
    refine lv_sipush (v := 200) hx hb dX7_addLot_12 (by decide) ?_
    refine sc_ro (n := 3) (As := [.int x, .int 1, .int 200]) (rest := []) (v := [.int (if isP x 1 200 then 1 else 0)]) ⟨hx, hb, hml, hown, hts⟩ (k_isIn la x 1 200) gX7_addLot_X7_isIn rfl rfl rfl (by decide +kernel) ⟨Nat.le_of_ble_eq_true rfl, Nat.le_of_ble_eq_true rfl⟩ rfl hl.1 rfl (Nat.le_of_ble_eq_true rfl) dX7_addLot_15 ⟨Nat.zero_le _, Nat.zero_le _⟩ rfl ?_
    refine br_if_ne (c9 := isP x 1 200) (tgt := 27) hx hb dX7_addLot_18 (by decide) (fun c_2 => ?_) (fun c_2 => ?_)
    · refine lv_aload_n hx hb dX7_addLot_27 rfl (lv_at hl 0 rfl) ?_
      refine m_get (v := .int (σ 3 0)) hx hb hts hinX7 hown hK hM 3 (by decide) lk92 rfl dX7_addLot_28 ?_
      refine lv_bipush (v := 24) hx hb dX7_addLot_31 (by decide) ?_
      refine lv_icmp_ne (tgt := 42) hx hb dX7_addLot_33 (by decide) (fun c_3 => ?_) (fun c_3 => ?_)
      · have kn : vp_in (σ 3 0) 24 := cnt_room hI.1.2.2.1 (by decide) (show ¬ σ 3 0 = nI 24 from c_3)
        refine lv_aload_n hx hb dX7_addLot_42 rfl (lv_at hl 0 rfl) ?_
        refine m_get (v := .ref (ma 14)) hx hb hts hinX7 hown hK hM 14 (by decide) lk38 rfl dX7_addLot_43 ?_
        refine lv_aload_n hx hb dX7_addLot_46 rfl (lv_at hl 0 rfl) ?_
        refine m_get (v := .int (σ 3 0)) hx hb hts hinX7 hown hK hM 3 (by decide) lk92 rfl dX7_addLot_47 ?_
        refine lv_iload_n hx hb dX7_addLot_50 rfl (lv_at hl 1 rfl) ?_
        refine m_iast hx hb hA hK hM 14 (by decide) rfl (i := (σ 3 0)) (n := 24) kn dX7_addLot_51 (fun H locs hM => ?_)
        refine lv_aload_n hx hb dX7_addLot_52 rfl (lv_at hl 0 rfl) ?_
        refine m_get (v := .ref (ma 15)) hx hb hts hinX7 hown hK hM 15 (by decide) lk41 rfl dX7_addLot_53 ?_
        refine lv_aload_n hx hb dX7_addLot_56 rfl (lv_at hl 0 rfl) ?_
        refine m_get (v := .int (σ 3 0)) hx hb hts hinX7 hown hK hM 3 (by decide) lk92 rfl dX7_addLot_57 ?_
        refine lv_iload_n hx hb dX7_addLot_60 rfl (lv_at hl 2 rfl) ?_
        refine m_iast hx hb hA hK hM 15 (by decide) rfl (i := (σ 3 0)) (n := 24) kn dX7_addLot_61 (fun H locs hM => ?_)
        refine lv_aload_n hx hb dX7_addLot_62 rfl (lv_at hl 0 rfl) ?_
        refine m_get (v := .ref (ma 21)) hx hb hts hinX7 hown hK hM 21 (by decide) lk59 rfl dX7_addLot_63 ?_
        refine lv_aload_n hx hb dX7_addLot_66 rfl (lv_at hl 0 rfl) ?_
        refine m_get (v := .int (σ 3 0)) hx hb hts hinX7 hown hK hM 3 (by decide) lk92 rfl dX7_addLot_67 ?_
        refine lv_bipush (v := 119) hx hb dX7_addLot_70 (by decide) ?_
        refine m_cast hx hb hA hK hM (i := (σ 3 0)) (x := 119) (by decide) kn dX7_addLot_72 (fun H locs hM => ?_)
        refine lv_aload_n hx hb dX7_addLot_73 rfl (lv_at hl 0 rfl) ?_
        refine m_get (v := .ref (ma 20)) hx hb hts hinX7 hown hK hM 20 (by decide) lk56 rfl dX7_addLot_74 ?_
        refine lv_aload_n hx hb dX7_addLot_77 rfl (lv_at hl 0 rfl) ?_
        refine m_get (v := .int (σ 3 0)) hx hb hts hinX7 hown hK hM 3 (by decide) lk92 rfl dX7_addLot_78 ?_
        refine lv_iconst (v := (-1)) hx hb dX7_addLot_81 (by decide) ?_
        refine m_iast hx hb hA hK hM 20 (by decide) rfl (i := (σ 3 0)) (n := 24) kn dX7_addLot_82 (fun H locs hM => ?_)
        refine lv_aload_n hx hb dX7_addLot_83 rfl (lv_at hl 0 rfl) ?_
        refine lv_dup hx hb dX7_addLot_84 rfl ?_
        refine m_get (v := .int (σ 3 0)) hx hb hts hinX7 hown hK hM 3 (by decide) lk92 rfl dX7_addLot_85 ?_
        refine lv_dup_x1 hx hb dX7_addLot_88 rfl rfl ?_
        refine lv_iconst (v := 1) hx hb dX7_addLot_89 (by decide) ?_
        refine lv_iadd hx hb dX7_addLot_90 ?_
        refine m_put hx hb hA hts hinX7 hown hK hM 3 (by decide) lk92 dX7_addLot_91 (fun H locs hM => ?_)
        exact W.iret (v := (σ 3 0)) hx hb hr (fun t ht hW => ⟨congrArg (fun z => Outcome.returned (some (Value.int z))) (by first | rfl | (simp [-Int32.not_lt, -Int32.not_le, okL, okV, okO, okR, okD, isP, shP, F_addLot, t_addLot, tL, tV, tO, tD, tLV, tN, c_1, c_2, c_3]; done) | (simp_all [-Int32.not_lt, -Int32.not_le, okL, okV, okO, okR, okD, isP, shP, F_addLot, t_addLot, tL, tV, tO, tD, tLV, tN]; done)), by rw [ht]; exact (hM.cg (by first | rfl | (simp [-Int32.not_lt, -Int32.not_le, okL, okV, okO, okR, okD, isP, shP, F_addLot, t_addLot, tL, tV, tO, tD, tLV, tN, c_1, c_2, c_3, up_id]; done) | (simp_all [-Int32.not_lt, -Int32.not_le, okL, okV, okO, okR, okD, isP, shP, F_addLot, t_addLot, tL, tV, tO, tD, tLV, tN, up_id]; done))).1, by rw [ht]; exact hM.2.1, fun q hq => by rw [ht]; exact hM.2.2.1 q hq⟩) hM.2.2.2 dX7_addLot_94
      · refine lv_aload_n hx hb dX7_addLot_36 rfl (lv_at hl 0 rfl) ?_
        refine lv_iconst (v := 3) hx hb dX7_addLot_37 (by decide) ?_
        refine mc_mu (n := 1) (As := [.int 3]) (rest := []) (v := [.int 0]) ⟨hx, hb, hml, hown, hts⟩ hK hM (k_refuse la g lo ma hA (up σ 0 0 0) u 3 ) gX7_addLot_X7_refuse rfl rfl rfl (by decide +kernel) ⟨Nat.le_of_ble_eq_true rfl, Nat.le_of_ble_eq_true rfl⟩ rfl hl.1 rfl (Nat.le_of_ble_eq_true rfl) dX7_addLot_38 ⟨Nat.zero_le _, Nat.zero_le _⟩ rfl (fun H locs hM => ?_)
        replace hM := hM.cg (up_up σ 0 0 0 3)
        exact W.iret (v := 0) hx hb hr (fun t ht hW => ⟨congrArg (fun z => Outcome.returned (some (Value.int z))) (by first | rfl | (simp [-Int32.not_lt, -Int32.not_le, okL, okV, okO, okR, okD, isP, shP, F_addLot, t_addLot, tL, tV, tO, tD, tLV, tN, c_1, c_2, c_3]; done) | (simp_all [-Int32.not_lt, -Int32.not_le, okL, okV, okO, okR, okD, isP, shP, F_addLot, t_addLot, tL, tV, tO, tD, tLV, tN]; done)), by rw [ht]; exact (hM.cg (by first | rfl | (simp [-Int32.not_lt, -Int32.not_le, okL, okV, okO, okR, okD, isP, shP, F_addLot, t_addLot, tL, tV, tO, tD, tLV, tN, c_1, c_2, c_3, up_id]; done) | (simp_all [-Int32.not_lt, -Int32.not_le, okL, okV, okO, okR, okD, isP, shP, F_addLot, t_addLot, tL, tV, tO, tD, tLV, tN, up_id]; done))).1, by rw [ht]; exact hM.2.1, fun q hq => by rw [ht]; exact hM.2.2.1 q hq⟩) hM.2.2.2 dX7_addLot_41
    · refine lv_aload_n hx hb dX7_addLot_21 rfl (lv_at hl 0 rfl) ?_
      refine lv_iconst (v := 2) hx hb dX7_addLot_22 (by decide) ?_
      refine mc_mu (n := 1) (As := [.int 2]) (rest := []) (v := [.int 0]) ⟨hx, hb, hml, hown, hts⟩ hK hM (k_refuse la g lo ma hA (up σ 0 0 0) u 2 ) gX7_addLot_X7_refuse rfl rfl rfl (by decide +kernel) ⟨Nat.le_of_ble_eq_true rfl, Nat.le_of_ble_eq_true rfl⟩ rfl hl.1 rfl (Nat.le_of_ble_eq_true rfl) dX7_addLot_23 ⟨Nat.zero_le _, Nat.zero_le _⟩ rfl (fun H locs hM => ?_)
      replace hM := hM.cg (up_up σ 0 0 0 2)
      exact W.iret (v := 0) hx hb hr (fun t ht hW => ⟨congrArg (fun z => Outcome.returned (some (Value.int z))) (by first | rfl | (simp [-Int32.not_lt, -Int32.not_le, okL, okV, okO, okR, okD, isP, shP, F_addLot, t_addLot, tL, tV, tO, tD, tLV, tN, c_1, c_2]; done) | (simp_all [-Int32.not_lt, -Int32.not_le, okL, okV, okO, okR, okD, isP, shP, F_addLot, t_addLot, tL, tV, tO, tD, tLV, tN]; done)), by rw [ht]; exact (hM.cg (by first | rfl | (simp [-Int32.not_lt, -Int32.not_le, okL, okV, okO, okR, okD, isP, shP, F_addLot, t_addLot, tL, tV, tO, tD, tLV, tN, c_1, c_2, up_id]; done) | (simp_all [-Int32.not_lt, -Int32.not_le, okL, okV, okO, okR, okD, isP, shP, F_addLot, t_addLot, tL, tV, tO, tD, tLV, tN, up_id]; done))).1, by rw [ht]; exact hM.2.1, fun q hq => by rw [ht]; exact hM.2.2.1 q hq⟩) hM.2.2.2 dX7_addLot_26
  · replace hM := hM.cg (congrArg (fun z => up σ 0 0 z) (if_neg c_1))
    refine lv_iconst (v := 0) hx hb dX7_addLot_8 (by decide) ?_
    exact W.iret (v := 0) hx hb hr (fun t ht hW => ⟨congrArg (fun z => Outcome.returned (some (Value.int z))) (by first | rfl | (simp [-Int32.not_lt, -Int32.not_le, okL, okV, okO, okR, okD, isP, shP, F_addLot, t_addLot, tL, tV, tO, tD, tLV, tN, c_1]; done) | (simp_all [-Int32.not_lt, -Int32.not_le, okL, okV, okO, okR, okD, isP, shP, F_addLot, t_addLot, tL, tV, tO, tD, tLV, tN]; done)), by rw [ht]; exact (hM.cg (by first | rfl | (simp [-Int32.not_lt, -Int32.not_le, okL, okV, okO, okR, okD, isP, shP, F_addLot, t_addLot, tL, tV, tO, tD, tLV, tN, c_1, up_id]; done) | (simp_all [-Int32.not_lt, -Int32.not_le, okL, okV, okO, okR, okD, isP, shP, F_addLot, t_addLot, tL, tV, tO, tD, tLV, tN, up_id]; done))).1, by rw [ht]; exact hM.2.1, fun q hq => by rw [ht]; exact hM.2.2.1 q hq⟩) hM.2.2.2 dX7_addLot_9
set_option maxHeartbeats 4000000 in
set_option maxRecDepth 100000 in
theorem k_addVat (la : Launch) (g : EG) (lo : Nat) (ma : Nat → Nat) (hA : MA lo ma) (σ : Sg) (u : Nat → Int64) (x : Int32) (hI : INV σ) : Met la yX7_addVat wsX7_addVat ({ frames := 1, cells := 0, slots := 0, locals := 22 } : Room) (va_Pc [.ref (ma 0), .int x] (fun U => MR g ma σ u U.heap ∧ KK g U)) (QM (.returned (some (.int (if t_addVat σ x = 0 then σ 4 0 else 0)))) (fun H1 => MR g ma (F_addVat σ x) u H1) (mown ma)) 0 0 (fun q => lo ≤ q) := by
  refine Met.ofW (cc := cX7_addVat) (maxL := 2) (ret := (some .int)) (by decide) rfl ?_
  intro p e s m args below meth c s₁ B hml hv
  obtain ⟨rfl, hR0, hK⟩ := hv
  have hx := B.exec
  have hb := B.bytes
  have hr := B.returns
  have hts := atoms_spec (ws := wsX7_addVat) B.pre
  have hown : s.vm.findClass RX7 = some m.cls := findClass_of_methodNamed B.named
  have hlocks := B.notSynchronized
  have hM : MS g lo ma σ u s.heap s.heap [] := MS.start hR0
  have hinX7 : ∀ w ∈ wsX70, w ∈ wsX7_addVat := by decide +kernel
  have lk63 := hts (.fieldLink RX7 63 "DyehouseLedgerModel" "room" "[I") (by decide +kernel)
  have lk66 := hts (.fieldLink RX7 66 "DyehouseLedgerModel" "light" "[I") (by decide +kernel)
  have lk69 := hts (.fieldLink RX7 69 "DyehouseLedgerModel" "barred" "[I") (by decide +kernel)
  have lk84 := hts (.fieldLink RX7 84 "DyehouseLedgerModel" "thrown" "I") (by decide +kernel)
  have lk95 := hts (.fieldLink RX7 95 "DyehouseLedgerModel" "vats" "I") (by decide +kernel)
  have hl := lv_entry ([.ref (ma 0), .int x]) (n := 2) (Nat.le_of_ble_eq_true rfl)
  rw [lg_entry_eq]
  generalize (lg_sl ([.ref (ma 0), .int x]) ++ List.replicate (2 - (lg_sl ([.ref (ma 0), .int x])).length) Slot.unset).toArray = ls at hl ⊢
  have hl : lv_has ls 2 [(0, .ref (ma 0)), (1, .int x)] := hl
  refine lv_iload_n hx hb dX7_addVat_0 rfl (lv_at hl 1 rfl) ?_
  refine lv_bipush (v := 10) hx hb dX7_addVat_1 (by decide) ?_
  refine lv_sipush (v := 300) hx hb dX7_addVat_3 (by decide) ?_
  refine sc_ro (n := 3) (As := [.int x, .int 10, .int 300]) (rest := []) (v := [.int (if isP x 10 300 then 1 else 0)]) ⟨hx, hb, hml, hown, hts⟩ (k_isIn la x 10 300) gX7_addVat_X7_isIn rfl rfl rfl (by decide +kernel) ⟨Nat.le_of_ble_eq_true rfl, Nat.le_of_ble_eq_true rfl⟩ rfl hl.1 rfl (Nat.le_of_ble_eq_true rfl) dX7_addVat_6 ⟨Nat.zero_le _, Nat.zero_le _⟩ rfl ?_
  refine br_if_ne (c9 := isP x 10 300) (tgt := 18) hx hb dX7_addVat_9 (by decide) (fun c_1 => ?_) (fun c_1 => ?_)
  · refine lv_aload_n hx hb dX7_addVat_18 rfl (lv_at hl 0 rfl) ?_
    refine m_get (v := .int (σ 4 0)) hx hb hts hinX7 hown hK hM 4 (by decide) lk95 rfl dX7_addVat_19 ?_
    refine lv_iconst (v := 4) hx hb dX7_addVat_22 (by decide) ?_
    refine lv_icmp_ne (tgt := 32) hx hb dX7_addVat_23 (by decide) (fun c_2 => ?_) (fun c_2 => ?_)
    · have kn : vp_in (σ 4 0) 4 := cnt_room hI.1.2.2.2 (by decide) (show ¬ σ 4 0 = nI 4 from c_2)
      refine lv_aload_n hx hb dX7_addVat_32 rfl (lv_at hl 0 rfl) ?_
      refine lv_iconst (v := 0) hx hb dX7_addVat_33 (by decide) ?_
      refine m_put hx hb hA hts hinX7 hown hK hM 0 (by decide) lk84 dX7_addVat_34 (fun H locs hM => ?_)
      refine lv_aload_n hx hb dX7_addVat_37 rfl (lv_at hl 0 rfl) ?_
      refine m_get (v := .ref (ma 22)) hx hb hts hinX7 hown hK hM 22 (by decide) lk63 rfl dX7_addVat_38 ?_
      refine lv_aload_n hx hb dX7_addVat_41 rfl (lv_at hl 0 rfl) ?_
      refine m_get (v := .int (σ 4 0)) hx hb hts hinX7 hown hK hM 4 (by decide) lk95 rfl dX7_addVat_42 ?_
      refine lv_iload_n hx hb dX7_addVat_45 rfl (lv_at hl 1 rfl) ?_
      refine m_iast hx hb hA hK hM 22 (by decide) rfl (i := (σ 4 0)) (n := 4) kn dX7_addVat_46 (fun H locs hM => ?_)
      refine lv_aload_n hx hb dX7_addVat_47 rfl (lv_at hl 0 rfl) ?_
      refine m_get (v := .ref (ma 23)) hx hb hts hinX7 hown hK hM 23 (by decide) lk66 rfl dX7_addVat_48 ?_
      refine lv_aload_n hx hb dX7_addVat_51 rfl (lv_at hl 0 rfl) ?_
      refine m_get (v := .int (σ 4 0)) hx hb hts hinX7 hown hK hM 4 (by decide) lk95 rfl dX7_addVat_52 ?_
      refine lv_iconst (v := (-1)) hx hb dX7_addVat_55 (by decide) ?_
      refine m_iast hx hb hA hK hM 23 (by decide) rfl (i := (σ 4 0)) (n := 4) kn dX7_addVat_56 (fun H locs hM => ?_)
      refine lv_aload_n hx hb dX7_addVat_57 rfl (lv_at hl 0 rfl) ?_
      refine m_get (v := .ref (ma 24)) hx hb hts hinX7 hown hK hM 24 (by decide) lk69 rfl dX7_addVat_58 ?_
      refine lv_aload_n hx hb dX7_addVat_61 rfl (lv_at hl 0 rfl) ?_
      refine m_get (v := .int (σ 4 0)) hx hb hts hinX7 hown hK hM 4 (by decide) lk95 rfl dX7_addVat_62 ?_
      refine lv_iconst (v := (-1)) hx hb dX7_addVat_65 (by decide) ?_
      refine m_iast hx hb hA hK hM 24 (by decide) rfl (i := (σ 4 0)) (n := 4) kn dX7_addVat_66 (fun H locs hM => ?_)
      refine lv_aload_n hx hb dX7_addVat_67 rfl (lv_at hl 0 rfl) ?_
      refine lv_dup hx hb dX7_addVat_68 rfl ?_
      refine m_get (v := .int (σ 4 0)) hx hb hts hinX7 hown hK hM 4 (by decide) lk95 rfl dX7_addVat_69 ?_
      refine lv_dup_x1 hx hb dX7_addVat_72 rfl rfl ?_
      refine lv_iconst (v := 1) hx hb dX7_addVat_73 (by decide) ?_
      refine lv_iadd hx hb dX7_addVat_74 ?_
      refine m_put hx hb hA hts hinX7 hown hK hM 4 (by decide) lk95 dX7_addVat_75 (fun H locs hM => ?_)
      exact W.iret (v := (σ 4 0)) hx hb hr (fun t ht hW => ⟨congrArg (fun z => Outcome.returned (some (Value.int z))) (by first | rfl | (simp [-Int32.not_lt, -Int32.not_le, okL, okV, okO, okR, okD, isP, shP, F_addVat, t_addVat, tL, tV, tO, tD, tLV, tN, c_1, c_2]; done) | (simp_all [-Int32.not_lt, -Int32.not_le, okL, okV, okO, okR, okD, isP, shP, F_addVat, t_addVat, tL, tV, tO, tD, tLV, tN]; done)), by rw [ht]; exact (hM.cg (by first | rfl | (simp [-Int32.not_lt, -Int32.not_le, okL, okV, okO, okR, okD, isP, shP, F_addVat, t_addVat, tL, tV, tO, tD, tLV, tN, c_1, c_2, up_id]; done) | (simp_all [-Int32.not_lt, -Int32.not_le, okL, okV, okO, okR, okD, isP, shP, F_addVat, t_addVat, tL, tV, tO, tD, tLV, tN, up_id]; done))).1, by rw [ht]; exact hM.2.1, fun q hq => by rw [ht]; exact hM.2.2.1 q hq⟩) hM.2.2.2 dX7_addVat_78
    · refine lv_aload_n hx hb dX7_addVat_26 rfl (lv_at hl 0 rfl) ?_
      refine lv_iconst (v := 2) hx hb dX7_addVat_27 (by decide) ?_
      refine mc_mu (n := 1) (As := [.int 2]) (rest := []) (v := [.int 0]) ⟨hx, hb, hml, hown, hts⟩ hK hM (k_refuse la g lo ma hA σ u 2 ) gX7_addVat_X7_refuse rfl rfl rfl (by decide +kernel) ⟨Nat.le_of_ble_eq_true rfl, Nat.le_of_ble_eq_true rfl⟩ rfl hl.1 rfl (Nat.le_of_ble_eq_true rfl) dX7_addVat_28 ⟨Nat.zero_le _, Nat.zero_le _⟩ rfl (fun H locs hM => ?_)
      exact W.iret (v := 0) hx hb hr (fun t ht hW => ⟨congrArg (fun z => Outcome.returned (some (Value.int z))) (by first | rfl | (simp [-Int32.not_lt, -Int32.not_le, okL, okV, okO, okR, okD, isP, shP, F_addVat, t_addVat, tL, tV, tO, tD, tLV, tN, c_1, c_2]; done) | (simp_all [-Int32.not_lt, -Int32.not_le, okL, okV, okO, okR, okD, isP, shP, F_addVat, t_addVat, tL, tV, tO, tD, tLV, tN]; done)), by rw [ht]; exact (hM.cg (by first | rfl | (simp [-Int32.not_lt, -Int32.not_le, okL, okV, okO, okR, okD, isP, shP, F_addVat, t_addVat, tL, tV, tO, tD, tLV, tN, c_1, c_2, up_id]; done) | (simp_all [-Int32.not_lt, -Int32.not_le, okL, okV, okO, okR, okD, isP, shP, F_addVat, t_addVat, tL, tV, tO, tD, tLV, tN, up_id]; done))).1, by rw [ht]; exact hM.2.1, fun q hq => by rw [ht]; exact hM.2.2.1 q hq⟩) hM.2.2.2 dX7_addVat_31
  · refine lv_aload_n hx hb dX7_addVat_12 rfl (lv_at hl 0 rfl) ?_
    refine lv_iconst (v := 1) hx hb dX7_addVat_13 (by decide) ?_
    refine mc_mu (n := 1) (As := [.int 1]) (rest := []) (v := [.int 0]) ⟨hx, hb, hml, hown, hts⟩ hK hM (k_refuse la g lo ma hA σ u 1 ) gX7_addVat_X7_refuse rfl rfl rfl (by decide +kernel) ⟨Nat.le_of_ble_eq_true rfl, Nat.le_of_ble_eq_true rfl⟩ rfl hl.1 rfl (Nat.le_of_ble_eq_true rfl) dX7_addVat_14 ⟨Nat.zero_le _, Nat.zero_le _⟩ rfl (fun H locs hM => ?_)
    exact W.iret (v := 0) hx hb hr (fun t ht hW => ⟨congrArg (fun z => Outcome.returned (some (Value.int z))) (by first | rfl | (simp [-Int32.not_lt, -Int32.not_le, okL, okV, okO, okR, okD, isP, shP, F_addVat, t_addVat, tL, tV, tO, tD, tLV, tN, c_1]; done) | (simp_all [-Int32.not_lt, -Int32.not_le, okL, okV, okO, okR, okD, isP, shP, F_addVat, t_addVat, tL, tV, tO, tD, tLV, tN]; done)), by rw [ht]; exact (hM.cg (by first | rfl | (simp [-Int32.not_lt, -Int32.not_le, okL, okV, okO, okR, okD, isP, shP, F_addVat, t_addVat, tL, tV, tO, tD, tLV, tN, c_1, up_id]; done) | (simp_all [-Int32.not_lt, -Int32.not_le, okL, okV, okO, okR, okD, isP, shP, F_addVat, t_addVat, tL, tV, tO, tD, tLV, tN, up_id]; done))).1, by rw [ht]; exact hM.2.1, fun q hq => by rw [ht]; exact hM.2.2.1 q hq⟩) hM.2.2.2 dX7_addVat_17
set_option maxHeartbeats 4000000 in
set_option maxRecDepth 100000 in
theorem k_clean (la : Launch) (g : EG) (lo : Nat) (ma : Nat → Nat) (hA : MA lo ma) (σ : Sg) (u : Nat → Int64) (v : Int32) (hI : INV σ) : Met la yX7_clean wsX7_clean ({ frames := 2, cells := 0, slots := 0, locals := 43 } : Room) (va_Pc [.ref (ma 0), .int v] (fun U => MR g ma σ u U.heap ∧ KK g U)) (QM (.returned (some (.int (if okV σ v then σ 25 (ti v) + 3 else 0)))) (fun H1 => MR g ma (F_clean σ v) u H1) (mown ma)) 0 0 (fun q => lo ≤ q) := by
  refine Met.ofW (cc := cX7_clean) (maxL := 2) (ret := (some .int)) (by decide) rfl ?_
  intro p e s m args below meth c s₁ B hml hv
  obtain ⟨rfl, hR0, hK⟩ := hv
  have hx := B.exec
  have hb := B.bytes
  have hr := B.returns
  have hts := atoms_spec (ws := wsX7_clean) B.pre
  have hown : s.vm.findClass RX7 = some m.cls := findClass_of_methodNamed B.named
  have hlocks := B.notSynchronized
  have hM : MS g lo ma σ u s.heap s.heap [] := MS.start hR0
  have hinX7 : ∀ w ∈ wsX70, w ∈ wsX7_clean := by decide +kernel
  have lk66 := hts (.fieldLink RX7 66 "DyehouseLedgerModel" "light" "[I") (by decide +kernel)
  have lk69 := hts (.fieldLink RX7 69 "DyehouseLedgerModel" "barred" "[I") (by decide +kernel)
  have lk72 := hts (.fieldLink RX7 72 "DyehouseLedgerModel" "clock" "[I") (by decide +kernel)
  have lk75 := hts (.fieldLink RX7 75 "DyehouseLedgerModel" "cleanings" "[I") (by decide +kernel)
  have hl := lv_entry ([.ref (ma 0), .int v]) (n := 2) (Nat.le_of_ble_eq_true rfl)
  rw [lg_entry_eq]
  generalize (lg_sl ([.ref (ma 0), .int v]) ++ List.replicate (2 - (lg_sl ([.ref (ma 0), .int v])).length) Slot.unset).toArray = ls at hl ⊢
  have hl : lv_has ls 2 [(0, .ref (ma 0)), (1, .int v)] := hl
  refine lv_aload_n hx hb dX7_clean_0 rfl (lv_at hl 0 rfl) ?_
  refine lv_iload_n hx hb dX7_clean_1 rfl (lv_at hl 1 rfl) ?_
  refine mc_mu (n := 1) (As := [.int v]) (rest := []) (v := [.int (if ¬ okV σ v then 1 else 0)]) ⟨hx, hb, hml, hown, hts⟩ hK hM (k_noVat la g lo ma hA σ u v ) gX7_clean_X7_noVat rfl rfl rfl (by decide +kernel) ⟨Nat.le_of_ble_eq_true rfl, Nat.le_of_ble_eq_true rfl⟩ rfl hl.1 rfl (Nat.le_of_ble_eq_true rfl) dX7_clean_2 ⟨Nat.zero_le _, Nat.zero_le _⟩ rfl (fun H locs hM => ?_)
  refine br_if_eq (c9 := ¬ okV σ v) (tgt := 10) hx hb dX7_clean_5 (by decide) (fun c_1 => ?_) (fun c_1 => ?_)
  · replace c_1 := Decidable.not_not.mp c_1
    replace hM := hM.cg (congrArg (fun z => up σ 0 0 z) (if_pos c_1))
    have kv := (okV_in hI v).mp c_1
    refine lv_aload_n hx hb dX7_clean_10 rfl (lv_at hl 0 rfl) ?_
    refine m_get (v := .ref (ma 23)) hx hb hts hinX7 hown hK hM 23 (by decide) lk66 rfl dX7_clean_11 ?_
    refine lv_iload_n hx hb dX7_clean_14 rfl (lv_at hl 1 rfl) ?_
    refine lv_iconst (v := (-1)) hx hb dX7_clean_15 (by decide) ?_
    refine m_iast hx hb hA hK hM 23 (by decide) rfl (i := v) (n := 4) (vat4 hI kv) dX7_clean_16 (fun H locs hM => ?_)
    refine lv_aload_n hx hb dX7_clean_17 rfl (lv_at hl 0 rfl) ?_
    refine m_get (v := .ref (ma 24)) hx hb hts hinX7 hown hK hM 24 (by decide) lk69 rfl dX7_clean_18 ?_
    refine lv_iload_n hx hb dX7_clean_21 rfl (lv_at hl 1 rfl) ?_
    refine lv_iconst (v := (-1)) hx hb dX7_clean_22 (by decide) ?_
    refine m_iast hx hb hA hK hM 24 (by decide) rfl (i := v) (n := 4) (vat4 hI kv) dX7_clean_23 (fun H locs hM => ?_)
    refine lv_aload_n hx hb dX7_clean_24 rfl (lv_at hl 0 rfl) ?_
    refine m_get (v := .ref (ma 26)) hx hb hts hinX7 hown hK hM 26 (by decide) lk75 rfl dX7_clean_25 ?_
    refine lv_iload_n hx hb dX7_clean_28 rfl (lv_at hl 1 rfl) ?_
    refine lv_dup2_11 hx hb dX7_clean_29 rfl rfl ?_
    refine m_iald (x := (σ 26 (ti v))) hx hb hK hM 26 (by decide) rfl (i := v) (n := 4) (vat4 hI kv) rfl dX7_clean_30 ?_
    refine lv_iconst (v := 1) hx hb dX7_clean_31 (by decide) ?_
    refine lv_iadd hx hb dX7_clean_32 ?_
    refine m_iast hx hb hA hK hM 26 (by decide) rfl (i := v) (n := 4) (vat4 hI kv) dX7_clean_33 (fun H locs hM => ?_)
    refine lv_aload_n hx hb dX7_clean_34 rfl (lv_at hl 0 rfl) ?_
    refine m_get (v := .ref (ma 25)) hx hb hts hinX7 hown hK hM 25 (by decide) lk72 rfl dX7_clean_35 ?_
    refine lv_iload_n hx hb dX7_clean_38 rfl (lv_at hl 1 rfl) ?_
    refine lv_dup2_11 hx hb dX7_clean_39 rfl rfl ?_
    refine m_iald (x := (σ 25 (ti v))) hx hb hK hM 25 (by decide) rfl (i := v) (n := 4) (vat4 hI kv) rfl dX7_clean_40 ?_
    refine lv_iconst (v := 3) hx hb dX7_clean_41 (by decide) ?_
    refine lv_iadd hx hb dX7_clean_42 ?_
    refine m_iast hx hb hA hK hM 25 (by decide) rfl (i := v) (n := 4) (vat4 hI kv) dX7_clean_43 (fun H locs hM => ?_)
    refine lv_aload_n hx hb dX7_clean_44 rfl (lv_at hl 0 rfl) ?_
    refine m_get (v := .ref (ma 25)) hx hb hts hinX7 hown hK hM 25 (by decide) lk72 rfl dX7_clean_45 ?_
    refine lv_iload_n hx hb dX7_clean_48 rfl (lv_at hl 1 rfl) ?_
    refine m_iald (x := ((σ 25 (ti v)) + 3)) hx hb hK hM 25 (by decide) rfl (i := v) (n := 4) (vat4 hI kv) (by simp [up, upd]) dX7_clean_49 ?_
    exact W.iret (v := ((σ 25 (ti v)) + 3)) hx hb hr (fun t ht hW => ⟨congrArg (fun z => Outcome.returned (some (Value.int z))) (by first | rfl | (simp [-Int32.not_lt, -Int32.not_le, okL, okV, okO, okR, okD, isP, shP, F_clean, tL, tV, tO, tD, tLV, tN, c_1]; done) | (simp_all [-Int32.not_lt, -Int32.not_le, okL, okV, okO, okR, okD, isP, shP, F_clean, tL, tV, tO, tD, tLV, tN]; done)), by rw [ht]; exact (hM.cg (by first | rfl | (simp [-Int32.not_lt, -Int32.not_le, okL, okV, okO, okR, okD, isP, shP, F_clean, tL, tV, tO, tD, tLV, tN, c_1, up_id]; done) | (simp_all [-Int32.not_lt, -Int32.not_le, okL, okV, okO, okR, okD, isP, shP, F_clean, tL, tV, tO, tD, tLV, tN, up_id]; done))).1, by rw [ht]; exact hM.2.1, fun q hq => by rw [ht]; exact hM.2.2.1 q hq⟩) hM.2.2.2 dX7_clean_50
  · replace hM := hM.cg (congrArg (fun z => up σ 0 0 z) (if_neg c_1))
    refine lv_iconst (v := 0) hx hb dX7_clean_8 (by decide) ?_
    exact W.iret (v := 0) hx hb hr (fun t ht hW => ⟨congrArg (fun z => Outcome.returned (some (Value.int z))) (by first | rfl | (simp [-Int32.not_lt, -Int32.not_le, okL, okV, okO, okR, okD, isP, shP, F_clean, tL, tV, tO, tD, tLV, tN, c_1]; done) | (simp_all [-Int32.not_lt, -Int32.not_le, okL, okV, okO, okR, okD, isP, shP, F_clean, tL, tV, tO, tD, tLV, tN]; done)), by rw [ht]; exact (hM.cg (by first | rfl | (simp [-Int32.not_lt, -Int32.not_le, okL, okV, okO, okR, okD, isP, shP, F_clean, tL, tV, tO, tD, tLV, tN, c_1, up_id]; done) | (simp_all [-Int32.not_lt, -Int32.not_le, okL, okV, okO, okR, okD, isP, shP, F_clean, tL, tV, tO, tD, tLV, tN, up_id]; done))).1, by rw [ht]; exact hM.2.1, fun q hq => by rw [ht]; exact hM.2.2.1 q hq⟩) hM.2.2.2 dX7_clean_9
set_option maxHeartbeats 4000000 in
set_option maxRecDepth 100000 in
theorem k_dye (la : Launch) (g : EG) (lo : Nat) (ma : Nat → Nat) (hA : MA lo ma) (σ : Sg) (u : Nat → Int64) (l v a b d : Int32) (hI : INV σ) : Met la yX7_dye wsX7_dye ({ frames := 2, cells := 0, slots := 0, locals := 45 } : Room) (va_Pc [.ref (ma 0), .int l, .int v, .int a, .int b, .int d] (fun U => MR g ma σ u U.heap ∧ KK g U)) (QM (.returned (some (.int (if t_dye σ l v a b d = 0 then σ 25 (ti v) + f_hours σ l else 0)))) (fun H1 => MR g ma (F_dye σ l v a b d) (u_dye σ u l v a b d) H1) (mown ma)) 0 0 (fun q => lo ≤ q) := by
  refine Met.ofW (cc := cX7_dye) (maxL := 7) (ret := (some .int)) (by decide) rfl ?_
  intro p e s m args below meth c s₁ B hml hv
  obtain ⟨rfl, hR0, hK⟩ := hv
  have hx := B.exec
  have hb := B.bytes
  have hr := B.returns
  have hts := atoms_spec (ws := wsX7_dye) B.pre
  have hown : s.vm.findClass RX7 = some m.cls := findClass_of_methodNamed B.named
  have hlocks := B.notSynchronized
  have hM : MS g lo ma σ u s.heap s.heap [] := MS.start hR0
  have hinX7 : ∀ w ∈ wsX70, w ∈ wsX7_dye := by decide +kernel
  have lk16 := hts (.fieldLink RX7 16 "DyehouseLedgerModel" "stock" "[I") (by decide +kernel)
  have lk19 := hts (.fieldLink RX7 19 "DyehouseLedgerModel" "used" "[J") (by decide +kernel)
  have lk44 := hts (.fieldLink RX7 44 "DyehouseLedgerModel" "out" "[I") (by decide +kernel)
  have lk47 := hts (.fieldLink RX7 47 "DyehouseLedgerModel" "vat" "[I") (by decide +kernel)
  have lk50 := hts (.fieldLink RX7 50 "DyehouseLedgerModel" "at" "[I") (by decide +kernel)
  have lk53 := hts (.fieldLink RX7 53 "DyehouseLedgerModel" "cleaned" "[I") (by decide +kernel)
  have lk56 := hts (.fieldLink RX7 56 "DyehouseLedgerModel" "plan" "[I") (by decide +kernel)
  have lk59 := hts (.fieldLink RX7 59 "DyehouseLedgerModel" "state" "[C") (by decide +kernel)
  have lk66 := hts (.fieldLink RX7 66 "DyehouseLedgerModel" "light" "[I") (by decide +kernel)
  have lk72 := hts (.fieldLink RX7 72 "DyehouseLedgerModel" "clock" "[I") (by decide +kernel)
  have lk75 := hts (.fieldLink RX7 75 "DyehouseLedgerModel" "cleanings" "[I") (by decide +kernel)
  have hl := lv_entry ([.ref (ma 0), .int l, .int v, .int a, .int b, .int d]) (n := 7) (Nat.le_of_ble_eq_true rfl)
  rw [lg_entry_eq]
  generalize (lg_sl ([.ref (ma 0), .int l, .int v, .int a, .int b, .int d]) ++ List.replicate (7 - (lg_sl ([.ref (ma 0), .int l, .int v, .int a, .int b, .int d])).length) Slot.unset).toArray = ls at hl ⊢
  have hl : lv_has ls 7 [(0, .ref (ma 0)), (1, .int l), (2, .int v), (3, .int a), (4, .int b), (5, .int d)] := hl
  refine lv_aload_n hx hb dX7_dye_0 rfl (lv_at hl 0 rfl) ?_
  refine lv_iload_n hx hb dX7_dye_1 rfl (lv_at hl 1 rfl) ?_
  refine mc_mu (n := 1) (As := [.int l]) (rest := []) (v := [.int (if ¬ okL σ l then 1 else 0)]) ⟨hx, hb, hml, hown, hts⟩ hK hM (k_noLot la g lo ma hA σ u l ) gX7_dye_X7_noLot rfl rfl rfl (by decide +kernel) ⟨Nat.le_of_ble_eq_true rfl, Nat.le_of_ble_eq_true rfl⟩ rfl hl.1 rfl (Nat.le_of_ble_eq_true rfl) dX7_dye_2 ⟨Nat.zero_le _, Nat.zero_le _⟩ rfl (fun H locs hM => ?_)
  refine br_if_ne (c9 := ¬ okL σ l) (tgt := 16) hx hb dX7_dye_5 (by decide) (fun c_1 => ?_) (fun c_1 => ?_)
  · replace hM := hM.cg (congrArg (fun z => up σ 0 0 z) (if_neg c_1))
    refine lv_iconst (v := 0) hx hb dX7_dye_16 (by decide) ?_
    exact W.iret (v := 0) hx hb hr (fun t ht hW => ⟨congrArg (fun z => Outcome.returned (some (Value.int z))) (by first | rfl | (simp [-Int32.not_lt, -Int32.not_le, okL, okV, okO, okR, okD, isP, shP, F_dye, C_dye, t_dye, u_dye, tL, tV, tO, tD, tLV, tN, c_1]; done) | (simp_all [-Int32.not_lt, -Int32.not_le, okL, okV, okO, okR, okD, isP, shP, F_dye, C_dye, t_dye, u_dye, tL, tV, tO, tD, tLV, tN]; done)), by rw [ht]; exact (hM.cg2 (by first | rfl | (simp [-Int32.not_lt, -Int32.not_le, okL, okV, okO, okR, okD, isP, shP, F_dye, C_dye, t_dye, u_dye, tL, tV, tO, tD, tLV, tN, c_1, up_id]; done) | (simp_all [-Int32.not_lt, -Int32.not_le, okL, okV, okO, okR, okD, isP, shP, F_dye, C_dye, t_dye, u_dye, tL, tV, tO, tD, tLV, tN, up_id]; done)) (by first | rfl | (simp [-Int32.not_lt, -Int32.not_le, okL, okV, okO, okR, okD, isP, shP, F_dye, C_dye, t_dye, u_dye, tL, tV, tO, tD, tLV, tN, c_1, up_id]; done) | (simp_all [-Int32.not_lt, -Int32.not_le, okL, okV, okO, okR, okD, isP, shP, F_dye, C_dye, t_dye, u_dye, tL, tV, tO, tD, tLV, tN, up_id]; done))).1, by rw [ht]; exact hM.2.1, fun q hq => by rw [ht]; exact hM.2.2.1 q hq⟩) hM.2.2.2 dX7_dye_17
  · replace c_1 := Decidable.not_not.mp c_1
    replace hM := hM.cg (congrArg (fun z => up σ 0 0 z) (if_pos c_1))
    have kl := (okL_in hI l).mp c_1
    refine lv_aload_n hx hb dX7_dye_8 rfl (lv_at hl 0 rfl) ?_
    refine lv_iload_n hx hb dX7_dye_9 rfl (lv_at hl 2 rfl) ?_
    refine mc_mu (n := 1) (As := [.int v]) (rest := []) (v := [.int (if ¬ okV σ v then 1 else 0)]) ⟨hx, hb, hml, hown, hts⟩ hK hM (k_noVat la g lo ma hA (up σ 0 0 0) u v ) gX7_dye_X7_noVat rfl rfl rfl (by decide +kernel) ⟨Nat.le_of_ble_eq_true rfl, Nat.le_of_ble_eq_true rfl⟩ rfl hl.1 rfl (Nat.le_of_ble_eq_true rfl) dX7_dye_10 ⟨Nat.zero_le _, Nat.zero_le _⟩ rfl (fun H locs hM => ?_)
    replace hM := hM.cg (up_up σ 0 0 0 (if okV σ v then 0 else 1))
    refine br_if_eq (c9 := ¬ okV σ v) (tgt := 18) hx hb dX7_dye_13 (by decide) (fun c_2 => ?_) (fun c_2 => ?_)
    · replace c_2 := Decidable.not_not.mp c_2
      replace hM := hM.cg (congrArg (fun z => up σ 0 0 z) (if_pos c_2))
      have kv := (okV_in hI v).mp c_2
      refine lv_iload_n hx hb dX7_dye_18 rfl (lv_at hl 3 rfl) ?_
      refine lv_iload hx hb dX7_dye_19 (lv_at hl 4 rfl) ?_
      refine lv_iload hx hb dX7_dye_21 (lv_at hl 5 rfl) ?_
      refine sc_ro (n := 3) (As := [.int a, .int b, .int d]) (rest := []) (v := [.int (if shP a b d then 1 else 0)]) ⟨hx, hb, hml, hown, hts⟩ (k_isShade la a b d) gX7_dye_X7_isShade rfl rfl rfl (by decide +kernel) ⟨Nat.le_of_ble_eq_true rfl, Nat.le_of_ble_eq_true rfl⟩ rfl hl.1 rfl (Nat.le_of_ble_eq_true rfl) dX7_dye_23 ⟨Nat.zero_le _, Nat.zero_le _⟩ rfl ?_
      refine br_if_ne (c9 := shP a b d) (tgt := 35) hx hb dX7_dye_26 (by decide) (fun c_3 => ?_) (fun c_3 => ?_)
      · refine lv_aload_n hx hb dX7_dye_35 rfl (lv_at hl 0 rfl) ?_
        refine lv_iload_n hx hb dX7_dye_36 rfl (lv_at hl 1 rfl) ?_
        refine lv_iload_n hx hb dX7_dye_37 rfl (lv_at hl 2 rfl) ?_
        refine mc_ro (n := 2) (As := [.int l, .int v]) (rest := []) (v := [.int (f_why σ l v)]) ⟨hx, hb, hml, hown, hts⟩ hK hM (k_why la g ma (up σ 0 0 0) u l v (hI.up0 _) kl kv) gX7_dye_X7_why rfl rfl rfl (by decide +kernel) ⟨Nat.le_of_ble_eq_true rfl, Nat.le_of_ble_eq_true rfl⟩ rfl hl.1 rfl (Nat.le_of_ble_eq_true rfl) dX7_dye_38 ⟨Nat.zero_le _, Nat.zero_le _⟩ rfl ?_
        refine lv_bipush (v := 45) hx hb dX7_dye_41 (by decide) ?_
        refine lv_icmp_eq (tgt := 52) hx hb dX7_dye_43 (by decide) (fun c_4 => ?_) (fun c_4 => ?_)
        · refine lv_iconst (v := 0) hx hb dX7_dye_52 (by decide) ?_
          refine lv_istore (lv' := [(6, .int 0), (0, .ref (ma 0)), (1, .int l), (2, .int v), (3, .int a), (4, .int b), (5, .int d)]) hx hb dX7_dye_53 hl (by decide) rfl (fun ls hl => ?_)
          refine lv_iload hx hb dX7_dye_55 (lv_at hl 0 rfl) ?_
          refine lv_iconst (v := 3) hx hb dX7_dye_57 (by decide) ?_
          refine lv_icmp_ge (tgt := 102) hx hb dX7_dye_58 (by decide) (fun c_5 => ?_) (fun c_5 => ?_)
          · exact absurd c_5 (by decide)
          · replace c_5 := Int32.not_le.mp c_5
            refine lv_aload_n hx hb dX7_dye_61 rfl (lv_at hl 1 rfl) ?_
            refine m_get (v := .ref (ma 7)) hx hb hts hinX7 hown hK hM 7 (by decide) lk16 rfl dX7_dye_62 ?_
            refine lv_iload hx hb dX7_dye_65 (lv_at hl 0 rfl) ?_
            refine lv_dup2_11 hx hb dX7_dye_67 rfl rfl ?_
            refine m_iald (x := (σ 7 0)) hx hb hK hM 7 (by decide) rfl (i := 0) (n := 3) (vin_dec (by decide +kernel)) (congrArg ((up σ 0 0 0) 7) ti_0) dX7_dye_68 ?_
            refine lv_aload_n hx hb dX7_dye_69 rfl (lv_at hl 1 rfl) ?_
            refine lv_iload_n hx hb dX7_dye_70 rfl (lv_at hl 2 rfl) ?_
            refine lv_iload hx hb dX7_dye_71 (lv_at hl 0 rfl) ?_
            refine mc_ro (n := 2) (As := [.int l, .int 0]) (rest := [.int (σ 7 0), .int 0, .ref (ma 7)]) (v := [.int (f_needed σ l 0)]) ⟨hx, hb, hml, hown, hts⟩ hK hM (k_needed la g ma (up σ 0 0 0) u l 0 (show INV (up σ 0 0 0) from hI) kl (vin_dec (by decide +kernel))) gX7_dye_X7_needed rfl rfl rfl (by decide +kernel) ⟨Nat.le_of_ble_eq_true rfl, Nat.le_of_ble_eq_true rfl⟩ rfl hl.1 rfl (Nat.le_of_ble_eq_true rfl) dX7_dye_73 ⟨Nat.zero_le _, Nat.zero_le _⟩ rfl ?_
            refine lv_isub hx hb dX7_dye_76 ?_
            refine m_iast hx hb hA hK hM 7 (by decide) rfl (i := 0) (n := 3) (vin_dec (by decide +kernel)) dX7_dye_77 (fun H locs hM => ?_)
            rw [ti_0] at hM
            refine lv_aload_n hx hb dX7_dye_78 rfl (lv_at hl 1 rfl) ?_
            refine m_get (v := .ref (ma 8)) hx hb hts hinX7 hown hK hM 8 (by decide) lk19 rfl dX7_dye_79 ?_
            refine lv_iload hx hb dX7_dye_82 (lv_at hl 0 rfl) ?_
            refine lv_dup2_11 hx hb dX7_dye_84 rfl rfl ?_
            refine m_lald (x := (u 0)) hx hb hK hM (i := 0) (vin_dec (by decide +kernel)) (by rw [ti_0] <;> simp [vp_updL]) dX7_dye_85 ?_
            refine lv_aload_n hx hb dX7_dye_86 rfl (lv_at hl 1 rfl) ?_
            refine lv_iload_n hx hb dX7_dye_87 rfl (lv_at hl 2 rfl) ?_
            refine lv_iload hx hb dX7_dye_88 (lv_at hl 0 rfl) ?_
            refine mc_ro (n := 2) (As := [.int l, .int 0]) (rest := [.long (u 0), .int 0, .ref (ma 8)]) (v := [.int (f_needed σ l 0)]) ⟨hx, hb, hml, hown, hts⟩ hK hM (k_needed la g ma (up (up σ 0 0 0) 7 0 ((σ 7 0) - (f_needed σ l 0))) u l 0 (show INV (up (up σ 0 0 0) 7 0 ((σ 7 0) - (f_needed σ l 0))) from hI) kl (vin_dec (by decide +kernel))) gX7_dye_X7_needed rfl rfl rfl (by decide +kernel) ⟨Nat.le_of_ble_eq_true rfl, Nat.le_of_ble_eq_true rfl⟩ rfl hl.1 rfl (Nat.le_of_ble_eq_true rfl) dX7_dye_90 ⟨Nat.zero_le _, Nat.zero_le _⟩ rfl ?_
            refine lv_i2l hx hb dX7_dye_93 rfl ?_
            refine lv_ladd hx hb dX7_dye_94 ?_
            refine m_last hx hb hA hK hM (i := 0) (vin_dec (by decide +kernel)) dX7_dye_95 (fun H locs hM => ?_)
            rw [ti_0] at hM
            refine lv_iinc (v := 1) (lv' := [(6, .int 1), (0, .ref (ma 0)), (1, .int l), (2, .int v), (3, .int a), (4, .int b), (5, .int d)]) hx hb dX7_dye_96 hl (k := 0) rfl (by decide) (by decide) rfl (fun ls hl => ?_)
            refine lv_goto (tgt := 55) hx hb dX7_dye_99 (by decide) ?_
            refine lv_iload hx hb dX7_dye_55 (lv_at hl 0 rfl) ?_
            refine lv_iconst (v := 3) hx hb dX7_dye_57 (by decide) ?_
            refine lv_icmp_ge (tgt := 102) hx hb dX7_dye_58 (by decide) (fun c_6 => ?_) (fun c_6 => ?_)
            · exact absurd c_6 (by decide)
            · replace c_6 := Int32.not_le.mp c_6
              refine lv_aload_n hx hb dX7_dye_61 rfl (lv_at hl 1 rfl) ?_
              refine m_get (v := .ref (ma 7)) hx hb hts hinX7 hown hK hM 7 (by decide) lk16 rfl dX7_dye_62 ?_
              refine lv_iload hx hb dX7_dye_65 (lv_at hl 0 rfl) ?_
              refine lv_dup2_11 hx hb dX7_dye_67 rfl rfl ?_
              refine m_iald (x := (σ 7 1)) hx hb hK hM 7 (by decide) rfl (i := 1) (n := 3) (vin_dec (by decide +kernel)) (by rw [ti_1] <;> simp [up, upd]) dX7_dye_68 ?_
              refine lv_aload_n hx hb dX7_dye_69 rfl (lv_at hl 1 rfl) ?_
              refine lv_iload_n hx hb dX7_dye_70 rfl (lv_at hl 2 rfl) ?_
              refine lv_iload hx hb dX7_dye_71 (lv_at hl 0 rfl) ?_
              refine mc_ro (n := 2) (As := [.int l, .int 1]) (rest := [.int (σ 7 1), .int 1, .ref (ma 7)]) (v := [.int (f_needed σ l 1)]) ⟨hx, hb, hml, hown, hts⟩ hK hM (k_needed la g ma (up (up σ 0 0 0) 7 0 ((σ 7 0) - (f_needed σ l 0))) (vp_updL u 0 ((u 0) + (f_needed σ l 0).toInt64)) l 1 (show INV (up (up σ 0 0 0) 7 0 ((σ 7 0) - (f_needed σ l 0))) from hI) kl (vin_dec (by decide +kernel))) gX7_dye_X7_needed rfl rfl rfl (by decide +kernel) ⟨Nat.le_of_ble_eq_true rfl, Nat.le_of_ble_eq_true rfl⟩ rfl hl.1 rfl (Nat.le_of_ble_eq_true rfl) dX7_dye_73 ⟨Nat.zero_le _, Nat.zero_le _⟩ rfl ?_
              refine lv_isub hx hb dX7_dye_76 ?_
              refine m_iast hx hb hA hK hM 7 (by decide) rfl (i := 1) (n := 3) (vin_dec (by decide +kernel)) dX7_dye_77 (fun H locs hM => ?_)
              rw [ti_1] at hM
              refine lv_aload_n hx hb dX7_dye_78 rfl (lv_at hl 1 rfl) ?_
              refine m_get (v := .ref (ma 8)) hx hb hts hinX7 hown hK hM 8 (by decide) lk19 rfl dX7_dye_79 ?_
              refine lv_iload hx hb dX7_dye_82 (lv_at hl 0 rfl) ?_
              refine lv_dup2_11 hx hb dX7_dye_84 rfl rfl ?_
              refine m_lald (x := (u 1)) hx hb hK hM (i := 1) (vin_dec (by decide +kernel)) (by rw [ti_1] <;> simp [vp_updL]) dX7_dye_85 ?_
              refine lv_aload_n hx hb dX7_dye_86 rfl (lv_at hl 1 rfl) ?_
              refine lv_iload_n hx hb dX7_dye_87 rfl (lv_at hl 2 rfl) ?_
              refine lv_iload hx hb dX7_dye_88 (lv_at hl 0 rfl) ?_
              refine mc_ro (n := 2) (As := [.int l, .int 1]) (rest := [.long (u 1), .int 1, .ref (ma 8)]) (v := [.int (f_needed σ l 1)]) ⟨hx, hb, hml, hown, hts⟩ hK hM (k_needed la g ma (up (up (up σ 0 0 0) 7 0 ((σ 7 0) - (f_needed σ l 0))) 7 1 ((σ 7 1) - (f_needed σ l 1))) (vp_updL u 0 ((u 0) + (f_needed σ l 0).toInt64)) l 1 (show INV (up (up (up σ 0 0 0) 7 0 ((σ 7 0) - (f_needed σ l 0))) 7 1 ((σ 7 1) - (f_needed σ l 1))) from hI) kl (vin_dec (by decide +kernel))) gX7_dye_X7_needed rfl rfl rfl (by decide +kernel) ⟨Nat.le_of_ble_eq_true rfl, Nat.le_of_ble_eq_true rfl⟩ rfl hl.1 rfl (Nat.le_of_ble_eq_true rfl) dX7_dye_90 ⟨Nat.zero_le _, Nat.zero_le _⟩ rfl ?_
              refine lv_i2l hx hb dX7_dye_93 rfl ?_
              refine lv_ladd hx hb dX7_dye_94 ?_
              refine m_last hx hb hA hK hM (i := 1) (vin_dec (by decide +kernel)) dX7_dye_95 (fun H locs hM => ?_)
              rw [ti_1] at hM
              refine lv_iinc (v := 2) (lv' := [(6, .int 2), (0, .ref (ma 0)), (1, .int l), (2, .int v), (3, .int a), (4, .int b), (5, .int d)]) hx hb dX7_dye_96 hl (k := 0) rfl (by decide) (by decide) rfl (fun ls hl => ?_)
              refine lv_goto (tgt := 55) hx hb dX7_dye_99 (by decide) ?_
              refine lv_iload hx hb dX7_dye_55 (lv_at hl 0 rfl) ?_
              refine lv_iconst (v := 3) hx hb dX7_dye_57 (by decide) ?_
              refine lv_icmp_ge (tgt := 102) hx hb dX7_dye_58 (by decide) (fun c_7 => ?_) (fun c_7 => ?_)
              · exact absurd c_7 (by decide)
              · replace c_7 := Int32.not_le.mp c_7
                refine lv_aload_n hx hb dX7_dye_61 rfl (lv_at hl 1 rfl) ?_
                refine m_get (v := .ref (ma 7)) hx hb hts hinX7 hown hK hM 7 (by decide) lk16 rfl dX7_dye_62 ?_
                refine lv_iload hx hb dX7_dye_65 (lv_at hl 0 rfl) ?_
                refine lv_dup2_11 hx hb dX7_dye_67 rfl rfl ?_
                refine m_iald (x := (σ 7 2)) hx hb hK hM 7 (by decide) rfl (i := 2) (n := 3) (vin_dec (by decide +kernel)) (by rw [ti_2] <;> simp [up, upd]) dX7_dye_68 ?_
                refine lv_aload_n hx hb dX7_dye_69 rfl (lv_at hl 1 rfl) ?_
                refine lv_iload_n hx hb dX7_dye_70 rfl (lv_at hl 2 rfl) ?_
                refine lv_iload hx hb dX7_dye_71 (lv_at hl 0 rfl) ?_
                refine mc_ro (n := 2) (As := [.int l, .int 2]) (rest := [.int (σ 7 2), .int 2, .ref (ma 7)]) (v := [.int (f_needed σ l 2)]) ⟨hx, hb, hml, hown, hts⟩ hK hM (k_needed la g ma (up (up (up σ 0 0 0) 7 0 ((σ 7 0) - (f_needed σ l 0))) 7 1 ((σ 7 1) - (f_needed σ l 1))) (vp_updL (vp_updL u 0 ((u 0) + (f_needed σ l 0).toInt64)) 1 ((u 1) + (f_needed σ l 1).toInt64)) l 2 (show INV (up (up (up σ 0 0 0) 7 0 ((σ 7 0) - (f_needed σ l 0))) 7 1 ((σ 7 1) - (f_needed σ l 1))) from hI) kl (vin_dec (by decide +kernel))) gX7_dye_X7_needed rfl rfl rfl (by decide +kernel) ⟨Nat.le_of_ble_eq_true rfl, Nat.le_of_ble_eq_true rfl⟩ rfl hl.1 rfl (Nat.le_of_ble_eq_true rfl) dX7_dye_73 ⟨Nat.zero_le _, Nat.zero_le _⟩ rfl ?_
                refine lv_isub hx hb dX7_dye_76 ?_
                refine m_iast hx hb hA hK hM 7 (by decide) rfl (i := 2) (n := 3) (vin_dec (by decide +kernel)) dX7_dye_77 (fun H locs hM => ?_)
                rw [ti_2] at hM
                refine lv_aload_n hx hb dX7_dye_78 rfl (lv_at hl 1 rfl) ?_
                refine m_get (v := .ref (ma 8)) hx hb hts hinX7 hown hK hM 8 (by decide) lk19 rfl dX7_dye_79 ?_
                refine lv_iload hx hb dX7_dye_82 (lv_at hl 0 rfl) ?_
                refine lv_dup2_11 hx hb dX7_dye_84 rfl rfl ?_
                refine m_lald (x := (u 2)) hx hb hK hM (i := 2) (vin_dec (by decide +kernel)) (by rw [ti_2] <;> simp [vp_updL]) dX7_dye_85 ?_
                refine lv_aload_n hx hb dX7_dye_86 rfl (lv_at hl 1 rfl) ?_
                refine lv_iload_n hx hb dX7_dye_87 rfl (lv_at hl 2 rfl) ?_
                refine lv_iload hx hb dX7_dye_88 (lv_at hl 0 rfl) ?_
                refine mc_ro (n := 2) (As := [.int l, .int 2]) (rest := [.long (u 2), .int 2, .ref (ma 8)]) (v := [.int (f_needed σ l 2)]) ⟨hx, hb, hml, hown, hts⟩ hK hM (k_needed la g ma (up (up (up (up σ 0 0 0) 7 0 ((σ 7 0) - (f_needed σ l 0))) 7 1 ((σ 7 1) - (f_needed σ l 1))) 7 2 ((σ 7 2) - (f_needed σ l 2))) (vp_updL (vp_updL u 0 ((u 0) + (f_needed σ l 0).toInt64)) 1 ((u 1) + (f_needed σ l 1).toInt64)) l 2 (show INV (up (up (up (up σ 0 0 0) 7 0 ((σ 7 0) - (f_needed σ l 0))) 7 1 ((σ 7 1) - (f_needed σ l 1))) 7 2 ((σ 7 2) - (f_needed σ l 2))) from hI) kl (vin_dec (by decide +kernel))) gX7_dye_X7_needed rfl rfl rfl (by decide +kernel) ⟨Nat.le_of_ble_eq_true rfl, Nat.le_of_ble_eq_true rfl⟩ rfl hl.1 rfl (Nat.le_of_ble_eq_true rfl) dX7_dye_90 ⟨Nat.zero_le _, Nat.zero_le _⟩ rfl ?_
                refine lv_i2l hx hb dX7_dye_93 rfl ?_
                refine lv_ladd hx hb dX7_dye_94 ?_
                refine m_last hx hb hA hK hM (i := 2) (vin_dec (by decide +kernel)) dX7_dye_95 (fun H locs hM => ?_)
                rw [ti_2] at hM
                refine lv_iinc (v := 3) (lv' := [(6, .int 3), (0, .ref (ma 0)), (1, .int l), (2, .int v), (3, .int a), (4, .int b), (5, .int d)]) hx hb dX7_dye_96 hl (k := 0) rfl (by decide) (by decide) rfl (fun ls hl => ?_)
                refine lv_goto (tgt := 55) hx hb dX7_dye_99 (by decide) ?_
                refine lv_iload hx hb dX7_dye_55 (lv_at hl 0 rfl) ?_
                refine lv_iconst (v := 3) hx hb dX7_dye_57 (by decide) ?_
                refine lv_icmp_ge (tgt := 102) hx hb dX7_dye_58 (by decide) (fun c_8 => ?_) (fun c_8 => ?_)
                · replace c_8 := Int32.not_lt.mpr c_8
                  refine lv_aload_n hx hb dX7_dye_102 rfl (lv_at hl 1 rfl) ?_
                  refine m_get (v := .ref (ma 16)) hx hb hts hinX7 hown hK hM 16 (by decide) lk44 rfl dX7_dye_103 ?_
                  refine lv_iconst (v := 3) hx hb dX7_dye_106 (by decide) ?_
                  refine lv_iload_n hx hb dX7_dye_107 rfl (lv_at hl 2 rfl) ?_
                  refine lv_imul hx hb dX7_dye_108 ?_
                  refine lv_iload_n hx hb dX7_dye_109 rfl (lv_at hl 4 rfl) ?_
                  refine m_iast hx hb hA hK hM 16 (by decide) rfl (i := (3 * l)) (n := 72) (vin_30 (lot24 hI kl) (by decide) (by decide)).1 dX7_dye_110 (fun H locs hM => ?_)
                  refine lv_aload_n hx hb dX7_dye_111 rfl (lv_at hl 1 rfl) ?_
                  refine m_get (v := .ref (ma 16)) hx hb hts hinX7 hown hK hM 16 (by decide) lk44 rfl dX7_dye_112 ?_
                  refine lv_iconst (v := 3) hx hb dX7_dye_115 (by decide) ?_
                  refine lv_iload_n hx hb dX7_dye_116 rfl (lv_at hl 2 rfl) ?_
                  refine lv_imul hx hb dX7_dye_117 ?_
                  refine lv_iconst (v := 1) hx hb dX7_dye_118 (by decide) ?_
                  refine lv_iadd hx hb dX7_dye_119 ?_
                  refine lv_iload hx hb dX7_dye_120 (lv_at hl 5 rfl) ?_
                  refine m_iast hx hb hA hK hM 16 (by decide) rfl (i := ((3 * l) + 1)) (n := 72) (vin_3d (lot24 hI kl) (by decide) (by decide) (vin_dec (by decide +kernel))).1 dX7_dye_122 (fun H locs hM => ?_)
                  refine lv_aload_n hx hb dX7_dye_123 rfl (lv_at hl 1 rfl) ?_
                  refine m_get (v := .ref (ma 16)) hx hb hts hinX7 hown hK hM 16 (by decide) lk44 rfl dX7_dye_124 ?_
                  refine lv_iconst (v := 3) hx hb dX7_dye_127 (by decide) ?_
                  refine lv_iload_n hx hb dX7_dye_128 rfl (lv_at hl 2 rfl) ?_
                  refine lv_imul hx hb dX7_dye_129 ?_
                  refine lv_iconst (v := 2) hx hb dX7_dye_130 (by decide) ?_
                  refine lv_iadd hx hb dX7_dye_131 ?_
                  refine lv_iload hx hb dX7_dye_132 (lv_at hl 6 rfl) ?_
                  refine m_iast hx hb hA hK hM 16 (by decide) rfl (i := ((3 * l) + 2)) (n := 72) (vin_3d (lot24 hI kl) (by decide) (by decide) (vin_dec (by decide +kernel))).1 dX7_dye_134 (fun H locs hM => ?_)
                  refine lv_aload_n hx hb dX7_dye_135 rfl (lv_at hl 1 rfl) ?_
                  refine m_get (v := .ref (ma 21)) hx hb hts hinX7 hown hK hM 21 (by decide) lk59 rfl dX7_dye_136 ?_
                  refine lv_iload_n hx hb dX7_dye_139 rfl (lv_at hl 2 rfl) ?_
                  refine lv_bipush (v := 100) hx hb dX7_dye_140 (by decide) ?_
                  refine m_cast hx hb hA hK hM (i := l) (x := 100) (by decide) (lot24 hI kl) dX7_dye_142 (fun H locs hM => ?_)
                  refine lv_aload_n hx hb dX7_dye_143 rfl (lv_at hl 1 rfl) ?_
                  refine m_get (v := .ref (ma 20)) hx hb hts hinX7 hown hK hM 20 (by decide) lk56 rfl dX7_dye_144 ?_
                  refine lv_iload_n hx hb dX7_dye_147 rfl (lv_at hl 2 rfl) ?_
                  refine lv_iconst (v := (-1)) hx hb dX7_dye_148 (by decide) ?_
                  refine m_iast hx hb hA hK hM 20 (by decide) rfl (i := l) (n := 24) (lot24 hI kl) dX7_dye_149 (fun H locs hM => ?_)
                  refine lv_aload_n hx hb dX7_dye_150 rfl (lv_at hl 1 rfl) ?_
                  refine m_get (v := .ref (ma 17)) hx hb hts hinX7 hown hK hM 17 (by decide) lk47 rfl dX7_dye_151 ?_
                  refine lv_iload_n hx hb dX7_dye_154 rfl (lv_at hl 2 rfl) ?_
                  refine lv_iload_n hx hb dX7_dye_155 rfl (lv_at hl 3 rfl) ?_
                  refine m_iast hx hb hA hK hM 17 (by decide) rfl (i := l) (n := 24) (lot24 hI kl) dX7_dye_156 (fun H locs hM => ?_)
                  refine lv_aload_n hx hb dX7_dye_157 rfl (lv_at hl 1 rfl) ?_
                  refine m_get (v := .ref (ma 23)) hx hb hts hinX7 hown hK hM 23 (by decide) lk66 rfl dX7_dye_158 ?_
                  refine lv_iload_n hx hb dX7_dye_161 rfl (lv_at hl 3 rfl) ?_
                  refine lv_iload_n hx hb dX7_dye_162 rfl (lv_at hl 4 rfl) ?_
                  refine m_iast hx hb hA hK hM 23 (by decide) rfl (i := v) (n := 4) (vat4 hI kv) dX7_dye_163 (fun H locs hM => ?_)
                  refine lv_aload_n hx hb dX7_dye_164 rfl (lv_at hl 1 rfl) ?_
                  refine m_get (v := .ref (ma 25)) hx hb hts hinX7 hown hK hM 25 (by decide) lk72 rfl dX7_dye_165 ?_
                  refine lv_iload_n hx hb dX7_dye_168 rfl (lv_at hl 3 rfl) ?_
                  refine lv_dup2_11 hx hb dX7_dye_169 rfl rfl ?_
                  refine m_iald (x := (σ 25 (ti v))) hx hb hK hM 25 (by decide) rfl (i := v) (n := 4) (vat4 hI kv) rfl dX7_dye_170 ?_
                  refine lv_aload_n hx hb dX7_dye_171 rfl (lv_at hl 1 rfl) ?_
                  refine lv_iload_n hx hb dX7_dye_172 rfl (lv_at hl 2 rfl) ?_
                  refine mc_ro (n := 1) (As := [.int l]) (rest := [.int (σ 25 (ti v)), .int v, .ref (ma 25)]) (v := [.int (f_hours σ l)]) ⟨hx, hb, hml, hown, hts⟩ hK hM (k_hours la g ma (up (up (up (up (up (up (up (up (up (up (up σ 0 0 0) 7 0 ((σ 7 0) - (f_needed σ l 0))) 7 1 ((σ 7 1) - (f_needed σ l 1))) 7 2 ((σ 7 2) - (f_needed σ l 2))) 16 (ti (3 * l)) a) 16 (ti ((3 * l) + 1)) b) 16 (ti ((3 * l) + 2)) d) 21 (ti l) 100) 20 (ti l) (-1)) 17 (ti l) v) 23 (ti v) a) (vp_updL (vp_updL (vp_updL u 0 ((u 0) + (f_needed σ l 0).toInt64)) 1 ((u 1) + (f_needed σ l 1).toInt64)) 2 ((u 2) + (f_needed σ l 2).toInt64)) l (lot24 hI kl)) gX7_dye_X7_hours rfl rfl rfl (by decide +kernel) ⟨Nat.le_of_ble_eq_true rfl, Nat.le_of_ble_eq_true rfl⟩ rfl hl.1 rfl (Nat.le_of_ble_eq_true rfl) dX7_dye_173 ⟨Nat.zero_le _, Nat.zero_le _⟩ rfl ?_
                  refine lv_iadd hx hb dX7_dye_176 ?_
                  refine m_iast hx hb hA hK hM 25 (by decide) rfl (i := v) (n := 4) (vat4 hI kv) dX7_dye_177 (fun H locs hM => ?_)
                  refine lv_aload_n hx hb dX7_dye_178 rfl (lv_at hl 1 rfl) ?_
                  refine m_get (v := .ref (ma 18)) hx hb hts hinX7 hown hK hM 18 (by decide) lk50 rfl dX7_dye_179 ?_
                  refine lv_iload_n hx hb dX7_dye_182 rfl (lv_at hl 2 rfl) ?_
                  refine lv_aload_n hx hb dX7_dye_183 rfl (lv_at hl 1 rfl) ?_
                  refine m_get (v := .ref (ma 25)) hx hb hts hinX7 hown hK hM 25 (by decide) lk72 rfl dX7_dye_184 ?_
                  refine lv_iload_n hx hb dX7_dye_187 rfl (lv_at hl 3 rfl) ?_
                  refine m_iald (x := ((σ 25 (ti v)) + (f_hours σ l))) hx hb hK hM 25 (by decide) rfl (i := v) (n := 4) (vat4 hI kv) (by simp [up, upd]) dX7_dye_188 ?_
                  refine m_iast hx hb hA hK hM 18 (by decide) rfl (i := l) (n := 24) (lot24 hI kl) dX7_dye_189 (fun H locs hM => ?_)
                  refine lv_aload_n hx hb dX7_dye_190 rfl (lv_at hl 1 rfl) ?_
                  refine m_get (v := .ref (ma 19)) hx hb hts hinX7 hown hK hM 19 (by decide) lk53 rfl dX7_dye_191 ?_
                  refine lv_iload_n hx hb dX7_dye_194 rfl (lv_at hl 2 rfl) ?_
                  refine lv_aload_n hx hb dX7_dye_195 rfl (lv_at hl 1 rfl) ?_
                  refine m_get (v := .ref (ma 26)) hx hb hts hinX7 hown hK hM 26 (by decide) lk75 rfl dX7_dye_196 ?_
                  refine lv_iload_n hx hb dX7_dye_199 rfl (lv_at hl 3 rfl) ?_
                  refine m_iald (x := (σ 26 (ti v))) hx hb hK hM 26 (by decide) rfl (i := v) (n := 4) (vat4 hI kv) rfl dX7_dye_200 ?_
                  refine m_iast hx hb hA hK hM 19 (by decide) rfl (i := l) (n := 24) (lot24 hI kl) dX7_dye_201 (fun H locs hM => ?_)
                  refine lv_aload_n hx hb dX7_dye_202 rfl (lv_at hl 1 rfl) ?_
                  refine m_get (v := .ref (ma 25)) hx hb hts hinX7 hown hK hM 25 (by decide) lk72 rfl dX7_dye_203 ?_
                  refine lv_iload_n hx hb dX7_dye_206 rfl (lv_at hl 3 rfl) ?_
                  refine m_iald (x := ((σ 25 (ti v)) + (f_hours σ l))) hx hb hK hM 25 (by decide) rfl (i := v) (n := 4) (vat4 hI kv) (by simp [up, upd]) dX7_dye_207 ?_
                  exact W.iret (v := ((σ 25 (ti v)) + (f_hours σ l))) hx hb hr (fun t ht hW => ⟨congrArg (fun z => Outcome.returned (some (Value.int z))) (by first | rfl | (simp [-Int32.not_lt, -Int32.not_le, okL, okV, okO, okR, okD, isP, shP, F_dye, C_dye, t_dye, u_dye, tL, tV, tO, tD, tLV, tN, c_1, c_2, c_3, c_4, c_5, c_6, c_7, c_8]; done) | (simp_all [-Int32.not_lt, -Int32.not_le, okL, okV, okO, okR, okD, isP, shP, F_dye, C_dye, t_dye, u_dye, tL, tV, tO, tD, tLV, tN]; done)), by rw [ht]; exact (hM.cg2 (by first | rfl | (simp [-Int32.not_lt, -Int32.not_le, okL, okV, okO, okR, okD, isP, shP, F_dye, C_dye, t_dye, u_dye, tL, tV, tO, tD, tLV, tN, c_1, c_2, c_3, c_4, c_5, c_6, c_7, c_8, up_id]; done) | (simp_all [-Int32.not_lt, -Int32.not_le, okL, okV, okO, okR, okD, isP, shP, F_dye, C_dye, t_dye, u_dye, tL, tV, tO, tD, tLV, tN, up_id]; done)) (by first | rfl | (simp [-Int32.not_lt, -Int32.not_le, okL, okV, okO, okR, okD, isP, shP, F_dye, C_dye, t_dye, u_dye, tL, tV, tO, tD, tLV, tN, c_1, c_2, c_3, c_4, c_5, c_6, c_7, c_8, up_id]; done) | (simp_all [-Int32.not_lt, -Int32.not_le, okL, okV, okO, okR, okD, isP, shP, F_dye, C_dye, t_dye, u_dye, tL, tV, tO, tD, tLV, tN, up_id]; done))).1, by rw [ht]; exact hM.2.1, fun q hq => by rw [ht]; exact hM.2.2.1 q hq⟩) hM.2.2.2 dX7_dye_208
                · exact absurd c_8 (by decide)
        · refine lv_aload_n hx hb dX7_dye_46 rfl (lv_at hl 0 rfl) ?_
          refine lv_iconst (v := 3) hx hb dX7_dye_47 (by decide) ?_
          refine mc_mu (n := 1) (As := [.int 3]) (rest := []) (v := [.int 0]) ⟨hx, hb, hml, hown, hts⟩ hK hM (k_refuse la g lo ma hA (up σ 0 0 0) u 3 ) gX7_dye_X7_refuse rfl rfl rfl (by decide +kernel) ⟨Nat.le_of_ble_eq_true rfl, Nat.le_of_ble_eq_true rfl⟩ rfl hl.1 rfl (Nat.le_of_ble_eq_true rfl) dX7_dye_48 ⟨Nat.zero_le _, Nat.zero_le _⟩ rfl (fun H locs hM => ?_)
          replace hM := hM.cg (up_up σ 0 0 0 3)
          exact W.iret (v := 0) hx hb hr (fun t ht hW => ⟨congrArg (fun z => Outcome.returned (some (Value.int z))) (by first | rfl | (simp [-Int32.not_lt, -Int32.not_le, okL, okV, okO, okR, okD, isP, shP, F_dye, C_dye, t_dye, u_dye, tL, tV, tO, tD, tLV, tN, c_1, c_2, c_3, c_4]; done) | (simp_all [-Int32.not_lt, -Int32.not_le, okL, okV, okO, okR, okD, isP, shP, F_dye, C_dye, t_dye, u_dye, tL, tV, tO, tD, tLV, tN]; done)), by rw [ht]; exact (hM.cg2 (by first | rfl | (simp [-Int32.not_lt, -Int32.not_le, okL, okV, okO, okR, okD, isP, shP, F_dye, C_dye, t_dye, u_dye, tL, tV, tO, tD, tLV, tN, c_1, c_2, c_3, c_4, up_id]; done) | (simp_all [-Int32.not_lt, -Int32.not_le, okL, okV, okO, okR, okD, isP, shP, F_dye, C_dye, t_dye, u_dye, tL, tV, tO, tD, tLV, tN, up_id]; done)) (by first | rfl | (simp [-Int32.not_lt, -Int32.not_le, okL, okV, okO, okR, okD, isP, shP, F_dye, C_dye, t_dye, u_dye, tL, tV, tO, tD, tLV, tN, c_1, c_2, c_3, c_4, up_id]; done) | (simp_all [-Int32.not_lt, -Int32.not_le, okL, okV, okO, okR, okD, isP, shP, F_dye, C_dye, t_dye, u_dye, tL, tV, tO, tD, tLV, tN, up_id]; done))).1, by rw [ht]; exact hM.2.1, fun q hq => by rw [ht]; exact hM.2.2.1 q hq⟩) hM.2.2.2 dX7_dye_51
      · refine lv_aload_n hx hb dX7_dye_29 rfl (lv_at hl 0 rfl) ?_
        refine lv_iconst (v := 2) hx hb dX7_dye_30 (by decide) ?_
        refine mc_mu (n := 1) (As := [.int 2]) (rest := []) (v := [.int 0]) ⟨hx, hb, hml, hown, hts⟩ hK hM (k_refuse la g lo ma hA (up σ 0 0 0) u 2 ) gX7_dye_X7_refuse rfl rfl rfl (by decide +kernel) ⟨Nat.le_of_ble_eq_true rfl, Nat.le_of_ble_eq_true rfl⟩ rfl hl.1 rfl (Nat.le_of_ble_eq_true rfl) dX7_dye_31 ⟨Nat.zero_le _, Nat.zero_le _⟩ rfl (fun H locs hM => ?_)
        replace hM := hM.cg (up_up σ 0 0 0 2)
        exact W.iret (v := 0) hx hb hr (fun t ht hW => ⟨congrArg (fun z => Outcome.returned (some (Value.int z))) (by first | rfl | (simp [-Int32.not_lt, -Int32.not_le, okL, okV, okO, okR, okD, isP, shP, F_dye, C_dye, t_dye, u_dye, tL, tV, tO, tD, tLV, tN, c_1, c_2, c_3]; done) | (simp_all [-Int32.not_lt, -Int32.not_le, okL, okV, okO, okR, okD, isP, shP, F_dye, C_dye, t_dye, u_dye, tL, tV, tO, tD, tLV, tN]; done)), by rw [ht]; exact (hM.cg2 (by first | rfl | (simp [-Int32.not_lt, -Int32.not_le, okL, okV, okO, okR, okD, isP, shP, F_dye, C_dye, t_dye, u_dye, tL, tV, tO, tD, tLV, tN, c_1, c_2, c_3, up_id]; done) | (simp_all [-Int32.not_lt, -Int32.not_le, okL, okV, okO, okR, okD, isP, shP, F_dye, C_dye, t_dye, u_dye, tL, tV, tO, tD, tLV, tN, up_id]; done)) (by first | rfl | (simp [-Int32.not_lt, -Int32.not_le, okL, okV, okO, okR, okD, isP, shP, F_dye, C_dye, t_dye, u_dye, tL, tV, tO, tD, tLV, tN, c_1, c_2, c_3, up_id]; done) | (simp_all [-Int32.not_lt, -Int32.not_le, okL, okV, okO, okR, okD, isP, shP, F_dye, C_dye, t_dye, u_dye, tL, tV, tO, tD, tLV, tN, up_id]; done))).1, by rw [ht]; exact hM.2.1, fun q hq => by rw [ht]; exact hM.2.2.1 q hq⟩) hM.2.2.2 dX7_dye_34
    · replace hM := hM.cg (congrArg (fun z => up σ 0 0 z) (if_neg c_2))
      refine lv_iconst (v := 0) hx hb dX7_dye_16 (by decide) ?_
      exact W.iret (v := 0) hx hb hr (fun t ht hW => ⟨congrArg (fun z => Outcome.returned (some (Value.int z))) (by first | rfl | (simp [-Int32.not_lt, -Int32.not_le, okL, okV, okO, okR, okD, isP, shP, F_dye, C_dye, t_dye, u_dye, tL, tV, tO, tD, tLV, tN, c_1, c_2]; done) | (simp_all [-Int32.not_lt, -Int32.not_le, okL, okV, okO, okR, okD, isP, shP, F_dye, C_dye, t_dye, u_dye, tL, tV, tO, tD, tLV, tN]; done)), by rw [ht]; exact (hM.cg2 (by first | rfl | (simp [-Int32.not_lt, -Int32.not_le, okL, okV, okO, okR, okD, isP, shP, F_dye, C_dye, t_dye, u_dye, tL, tV, tO, tD, tLV, tN, c_1, c_2, up_id]; done) | (simp_all [-Int32.not_lt, -Int32.not_le, okL, okV, okO, okR, okD, isP, shP, F_dye, C_dye, t_dye, u_dye, tL, tV, tO, tD, tLV, tN, up_id]; done)) (by first | rfl | (simp [-Int32.not_lt, -Int32.not_le, okL, okV, okO, okR, okD, isP, shP, F_dye, C_dye, t_dye, u_dye, tL, tV, tO, tD, tLV, tN, c_1, c_2, up_id]; done) | (simp_all [-Int32.not_lt, -Int32.not_le, okL, okV, okO, okR, okD, isP, shP, F_dye, C_dye, t_dye, u_dye, tL, tV, tO, tD, tLV, tN, up_id]; done))).1, by rw [ht]; exact hM.2.1, fun q hq => by rw [ht]; exact hM.2.2.1 q hq⟩) hM.2.2.2 dX7_dye_17
set_option maxHeartbeats 4000000 in
set_option maxRecDepth 100000 in
theorem k_judge (la : Launch) (g : EG) (lo : Nat) (ma : Nat → Nat) (hA : MA lo ma) (σ : Sg) (u : Nat → Int64) (l : Int32) (hI : INV σ) : Met la yX7_judge wsX7_judge ({ frames := 3, cells := 0, slots := 0, locals := 65 } : Room) (va_Pc [.ref (ma 0), .int l] (fun U => MR g ma σ u U.heap ∧ KK g U)) (QM (.returned (some (.int (if okL σ l ∧ σ 21 (ti l) = 100 ∧ f_judged σ l = 112 then 1 else 0)))) (fun H1 => MR g ma (F_judge σ l) u H1) (mown ma)) 0 0 (fun q => lo ≤ q) := by
  refine Met.ofW (cc := cX7_judge) (maxL := 3) (ret := (some .boolean)) (by decide) rfl ?_
  intro p e s m args below meth c s₁ B hml hv
  obtain ⟨rfl, hR0, hK⟩ := hv
  have hx := B.exec
  have hb := B.bytes
  have hr := B.returns
  have hts := atoms_spec (ws := wsX7_judge) B.pre
  have hown : s.vm.findClass RX7 = some m.cls := findClass_of_methodNamed B.named
  have hlocks := B.notSynchronized
  have hM : MS g lo ma σ u s.heap s.heap [] := MS.start hR0
  have hinX7 : ∀ w ∈ wsX70, w ∈ wsX7_judge := by decide +kernel
  have lk23 := hts (.fieldLink RX7 23 "DyehouseLedgerModel" "customer" "[I") (by decide +kernel)
  have lk38 := hts (.fieldLink RX7 38 "DyehouseLedgerModel" "order" "[I") (by decide +kernel)
  have lk47 := hts (.fieldLink RX7 47 "DyehouseLedgerModel" "vat" "[I") (by decide +kernel)
  have lk53 := hts (.fieldLink RX7 53 "DyehouseLedgerModel" "cleaned" "[I") (by decide +kernel)
  have lk59 := hts (.fieldLink RX7 59 "DyehouseLedgerModel" "state" "[C") (by decide +kernel)
  have lk69 := hts (.fieldLink RX7 69 "DyehouseLedgerModel" "barred" "[I") (by decide +kernel)
  have lk75 := hts (.fieldLink RX7 75 "DyehouseLedgerModel" "cleanings" "[I") (by decide +kernel)
  have hl := lv_entry ([.ref (ma 0), .int l]) (n := 3) (Nat.le_of_ble_eq_true rfl)
  rw [lg_entry_eq]
  generalize (lg_sl ([.ref (ma 0), .int l]) ++ List.replicate (3 - (lg_sl ([.ref (ma 0), .int l])).length) Slot.unset).toArray = ls at hl ⊢
  have hl : lv_has ls 3 [(0, .ref (ma 0)), (1, .int l)] := hl
  refine lv_aload_n hx hb dX7_judge_0 rfl (lv_at hl 0 rfl) ?_
  refine lv_iload_n hx hb dX7_judge_1 rfl (lv_at hl 1 rfl) ?_
  refine lv_bipush (v := 100) hx hb dX7_judge_2 (by decide) ?_
  refine mc_mu (n := 2) (As := [.int l, .int 100]) (rest := []) (v := [.int (if ¬ (okL σ l ∧ σ 21 (ti l) = 100) then 1 else 0)]) ⟨hx, hb, hml, hown, hts⟩ hK hM (k_isNot la g lo ma hA σ u l 100 hI) gX7_judge_X7_isNot rfl rfl rfl (by decide +kernel) ⟨Nat.le_of_ble_eq_true rfl, Nat.le_of_ble_eq_true rfl⟩ rfl hl.1 rfl (Nat.le_of_ble_eq_true rfl) dX7_judge_4 ⟨Nat.zero_le _, Nat.zero_le _⟩ rfl (fun H locs hM => ?_)
  refine br_if_eq (c9 := ¬ (okL σ l ∧ σ 21 (ti l) = 100)) (tgt := 12) hx hb dX7_judge_7 (by decide) (fun c_1 => ?_) (fun c_1 => ?_)
  · replace c_1 := Decidable.not_not.mp c_1
    replace hM := hM.cg (congrArg (fun z => up σ 0 0 z) (tN_ok c_1))
    have kl := (okL_in hI l).mp c_1.1
    have kst : ¬ σ 21 (ti l) = 119 := by rw [c_1.2]; decide
    have kvl := vatI hI kl kst
    refine lv_aload_n hx hb dX7_judge_12 rfl (lv_at hl 0 rfl) ?_
    refine lv_iload_n hx hb dX7_judge_13 rfl (lv_at hl 1 rfl) ?_
    refine mc_ro (n := 1) (As := [.int l]) (rest := []) (v := [.int (f_judged σ l)]) ⟨hx, hb, hml, hown, hts⟩ hK hM (k_judged la g ma (up σ 0 0 0) u l (hI.up0 _) kl) gX7_judge_X7_judged rfl rfl rfl (by decide +kernel) ⟨Nat.le_of_ble_eq_true rfl, Nat.le_of_ble_eq_true rfl⟩ rfl hl.1 rfl (Nat.le_of_ble_eq_true rfl) dX7_judge_14 ⟨Nat.zero_le _, Nat.zero_le _⟩ rfl ?_
    refine lv_bipush (v := 112) hx hb dX7_judge_17 (by decide) ?_
    refine lv_icmp_ne (tgt := 26) hx hb dX7_judge_19 (by decide) (fun c_2 => ?_) (fun c_2 => ?_)
    · refine lv_iconst (v := 0) hx hb dX7_judge_26 (by decide) ?_
      refine lv_istore_n (lv' := [(2, .int 0), (0, .ref (ma 0)), (1, .int l)]) hx hb dX7_judge_27 rfl hl (by decide) rfl (fun ls hl => ?_)
      refine lv_aload_n hx hb dX7_judge_28 rfl (lv_at hl 1 rfl) ?_
      refine m_get (v := .ref (ma 21)) hx hb hts hinX7 hown hK hM 21 (by decide) lk59 rfl dX7_judge_29 ?_
      refine lv_iload_n hx hb dX7_judge_32 rfl (lv_at hl 2 rfl) ?_
      refine lv_iload_n hx hb dX7_judge_33 rfl (lv_at hl 0 rfl) ?_
      refine lv_if_eq (tgt := 42) hx hb dX7_judge_34 (by decide) (fun c_3 => ?_) (fun c_3 => ?_)
      · refine lv_bipush (v := 120) hx hb dX7_judge_42 (by decide) ?_
        refine m_cast hx hb hA hK hM (i := l) (x := 120) (by decide) (lot24 hI kl) dX7_judge_44 (fun H locs hM => ?_)
        refine lv_iload_n hx hb dX7_judge_45 rfl (lv_at hl 0 rfl) ?_
        refine lv_if_eq (tgt := 91) hx hb dX7_judge_46 (by decide) (fun c_4 => ?_) (fun c_4 => ?_)
        · refine lv_iload_n hx hb dX7_judge_91 rfl (lv_at hl 0 rfl) ?_
          exact W.zret (v := 0) hx hb hr rfl (fun t ht hW => ⟨congrArg (fun z => Outcome.returned (some (Value.int z))) (by first | rfl | (simp [-Int32.not_lt, -Int32.not_le, okL, okV, okO, okR, okD, isP, shP, F_judge, f_cust, tL, tV, tO, tD, tLV, tN, c_1, c_2, c_3, c_4]; done) | (simp_all [-Int32.not_lt, -Int32.not_le, okL, okV, okO, okR, okD, isP, shP, F_judge, f_cust, tL, tV, tO, tD, tLV, tN]; done)), by rw [ht]; exact (hM.cg (by first | rfl | (simp [-Int32.not_lt, -Int32.not_le, okL, okV, okO, okR, okD, isP, shP, F_judge, f_cust, tL, tV, tO, tD, tLV, tN, c_1, c_2, c_3, c_4, up_id]; done) | (simp_all [-Int32.not_lt, -Int32.not_le, okL, okV, okO, okR, okD, isP, shP, F_judge, f_cust, tL, tV, tO, tD, tLV, tN, up_id]; done))).1, by rw [ht]; exact hM.2.1, fun q hq => by rw [ht]; exact hM.2.2.1 q hq⟩) hM.2.2.2 dX7_judge_92
        · exact absurd c_4 (by decide)
      · exact absurd c_3 (by decide)
    · refine lv_iconst (v := 1) hx hb dX7_judge_22 (by decide) ?_
      refine lv_goto (tgt := 27) hx hb dX7_judge_23 (by decide) ?_
      refine lv_istore_n (lv' := [(2, .int 1), (0, .ref (ma 0)), (1, .int l)]) hx hb dX7_judge_27 rfl hl (by decide) rfl (fun ls hl => ?_)
      refine lv_aload_n hx hb dX7_judge_28 rfl (lv_at hl 1 rfl) ?_
      refine m_get (v := .ref (ma 21)) hx hb hts hinX7 hown hK hM 21 (by decide) lk59 rfl dX7_judge_29 ?_
      refine lv_iload_n hx hb dX7_judge_32 rfl (lv_at hl 2 rfl) ?_
      refine lv_iload_n hx hb dX7_judge_33 rfl (lv_at hl 0 rfl) ?_
      refine lv_if_eq (tgt := 42) hx hb dX7_judge_34 (by decide) (fun c_5 => ?_) (fun c_5 => ?_)
      · exact absurd c_5 (by decide)
      · refine lv_bipush (v := 112) hx hb dX7_judge_37 (by decide) ?_
        refine lv_goto (tgt := 44) hx hb dX7_judge_39 (by decide) ?_
        refine m_cast hx hb hA hK hM (i := l) (x := 112) (by decide) (lot24 hI kl) dX7_judge_44 (fun H locs hM => ?_)
        refine lv_iload_n hx hb dX7_judge_45 rfl (lv_at hl 0 rfl) ?_
        refine lv_if_eq (tgt := 91) hx hb dX7_judge_46 (by decide) (fun c_6 => ?_) (fun c_6 => ?_)
        · exact absurd c_6 (by decide)
        · refine lv_aload_n hx hb dX7_judge_49 rfl (lv_at hl 1 rfl) ?_
          refine m_get (v := .ref (ma 19)) hx hb hts hinX7 hown hK hM 19 (by decide) lk53 rfl dX7_judge_50 ?_
          refine lv_iload_n hx hb dX7_judge_53 rfl (lv_at hl 2 rfl) ?_
          refine m_iald (x := (σ 19 (ti l))) hx hb hK hM 19 (by decide) rfl (i := l) (n := 24) (lot24 hI kl) rfl dX7_judge_54 ?_
          refine lv_aload_n hx hb dX7_judge_55 rfl (lv_at hl 1 rfl) ?_
          refine m_get (v := .ref (ma 26)) hx hb hts hinX7 hown hK hM 26 (by decide) lk75 rfl dX7_judge_56 ?_
          refine lv_aload_n hx hb dX7_judge_59 rfl (lv_at hl 1 rfl) ?_
          refine m_get (v := .ref (ma 17)) hx hb hts hinX7 hown hK hM 17 (by decide) lk47 rfl dX7_judge_60 ?_
          refine lv_iload_n hx hb dX7_judge_63 rfl (lv_at hl 2 rfl) ?_
          refine m_iald (x := (σ 17 (ti l))) hx hb hK hM 17 (by decide) rfl (i := l) (n := 24) (lot24 hI kl) rfl dX7_judge_64 ?_
          refine m_iald (x := (σ 26 (ti (σ 17 (ti l))))) hx hb hK hM 26 (by decide) rfl (i := (σ 17 (ti l))) (n := 4) (vat4 hI kvl) rfl dX7_judge_65 ?_
          refine lv_icmp_ne (tgt := 91) hx hb dX7_judge_66 (by decide) (fun c_7 => ?_) (fun c_7 => ?_)
          · refine lv_iload_n hx hb dX7_judge_91 rfl (lv_at hl 0 rfl) ?_
            exact W.zret (v := 1) hx hb hr rfl (fun t ht hW => ⟨congrArg (fun z => Outcome.returned (some (Value.int z))) (by first | rfl | (simp [-Int32.not_lt, -Int32.not_le, okL, okV, okO, okR, okD, isP, shP, F_judge, f_cust, tL, tV, tO, tD, tLV, tN, c_1, c_2, c_5, c_6, c_7]; done) | (simp_all [-Int32.not_lt, -Int32.not_le, okL, okV, okO, okR, okD, isP, shP, F_judge, f_cust, tL, tV, tO, tD, tLV, tN]; done)), by rw [ht]; exact (hM.cg (by first | rfl | (simp [-Int32.not_lt, -Int32.not_le, okL, okV, okO, okR, okD, isP, shP, F_judge, f_cust, tL, tV, tO, tD, tLV, tN, c_1, c_2, c_5, c_6, c_7, up_id]; done) | (simp_all [-Int32.not_lt, -Int32.not_le, okL, okV, okO, okR, okD, isP, shP, F_judge, f_cust, tL, tV, tO, tD, tLV, tN, up_id]; done))).1, by rw [ht]; exact hM.2.1, fun q hq => by rw [ht]; exact hM.2.2.1 q hq⟩) hM.2.2.2 dX7_judge_92
          · refine lv_aload_n hx hb dX7_judge_69 rfl (lv_at hl 1 rfl) ?_
            refine m_get (v := .ref (ma 24)) hx hb hts hinX7 hown hK hM 24 (by decide) lk69 rfl dX7_judge_70 ?_
            refine lv_aload_n hx hb dX7_judge_73 rfl (lv_at hl 1 rfl) ?_
            refine m_get (v := .ref (ma 17)) hx hb hts hinX7 hown hK hM 17 (by decide) lk47 rfl dX7_judge_74 ?_
            refine lv_iload_n hx hb dX7_judge_77 rfl (lv_at hl 2 rfl) ?_
            refine m_iald (x := (σ 17 (ti l))) hx hb hK hM 17 (by decide) rfl (i := l) (n := 24) (lot24 hI kl) rfl dX7_judge_78 ?_
            refine lv_aload_n hx hb dX7_judge_79 rfl (lv_at hl 1 rfl) ?_
            refine m_get (v := .ref (ma 9)) hx hb hts hinX7 hown hK hM 9 (by decide) lk23 rfl dX7_judge_80 ?_
            refine lv_aload_n hx hb dX7_judge_83 rfl (lv_at hl 1 rfl) ?_
            refine m_get (v := .ref (ma 14)) hx hb hts hinX7 hown hK hM 14 (by decide) lk38 rfl dX7_judge_84 ?_
            refine lv_iload_n hx hb dX7_judge_87 rfl (lv_at hl 2 rfl) ?_
            refine m_iald (x := (σ 14 (ti l))) hx hb hK hM 14 (by decide) rfl (i := l) (n := 24) (lot24 hI kl) rfl dX7_judge_88 ?_
            refine m_iald (x := (σ 9 (ti (σ 14 (ti l))))) hx hb hK hM 9 (by decide) rfl (i := (σ 14 (ti l))) (n := 6) (od6 hI (ordO hI kl)) rfl dX7_judge_89 ?_
            refine m_iast hx hb hA hK hM 24 (by decide) rfl (i := (σ 17 (ti l))) (n := 4) (vat4 hI kvl) dX7_judge_90 (fun H locs hM => ?_)
            refine lv_iload_n hx hb dX7_judge_91 rfl (lv_at hl 0 rfl) ?_
            exact W.zret (v := 1) hx hb hr rfl (fun t ht hW => ⟨congrArg (fun z => Outcome.returned (some (Value.int z))) (by first | rfl | (simp [-Int32.not_lt, -Int32.not_le, okL, okV, okO, okR, okD, isP, shP, F_judge, f_cust, tL, tV, tO, tD, tLV, tN, c_1, c_2, c_5, c_6, c_7]; done) | (simp_all [-Int32.not_lt, -Int32.not_le, okL, okV, okO, okR, okD, isP, shP, F_judge, f_cust, tL, tV, tO, tD, tLV, tN]; done)), by rw [ht]; exact (hM.cg (by first | rfl | (simp [-Int32.not_lt, -Int32.not_le, okL, okV, okO, okR, okD, isP, shP, F_judge, f_cust, tL, tV, tO, tD, tLV, tN, c_1, c_2, c_5, c_6, c_7, up_id]; done) | (simp_all [-Int32.not_lt, -Int32.not_le, okL, okV, okO, okR, okD, isP, shP, F_judge, f_cust, tL, tV, tO, tD, tLV, tN, up_id]; done))).1, by rw [ht]; exact hM.2.1, fun q hq => by rw [ht]; exact hM.2.2.1 q hq⟩) hM.2.2.2 dX7_judge_92
  · refine lv_iconst (v := 0) hx hb dX7_judge_10 (by decide) ?_
    exact W.zret (v := 0) hx hb hr rfl (fun t ht hW => ⟨congrArg (fun z => Outcome.returned (some (Value.int z))) (by first | rfl | (simp [-Int32.not_lt, -Int32.not_le, okL, okV, okO, okR, okD, isP, shP, F_judge, f_cust, tL, tV, tO, tD, tLV, tN, c_1]; done) | (simp_all [-Int32.not_lt, -Int32.not_le, okL, okV, okO, okR, okD, isP, shP, F_judge, f_cust, tL, tV, tO, tD, tLV, tN]; done)), by rw [ht]; exact (hM.cg (by first | rfl | (simp [-Int32.not_lt, -Int32.not_le, okL, okV, okO, okR, okD, isP, shP, F_judge, f_cust, tL, tV, tO, tD, tLV, tN, c_1, up_id]; done) | (simp_all [-Int32.not_lt, -Int32.not_le, okL, okV, okO, okR, okD, isP, shP, F_judge, f_cust, tL, tV, tO, tD, tLV, tN, up_id]; done))).1, by rw [ht]; exact hM.2.1, fun q hq => by rw [ht]; exact hM.2.2.1 q hq⟩) hM.2.2.2 dX7_judge_11
set_option maxHeartbeats 4000000 in
set_option maxRecDepth 100000 in
theorem k_again (la : Launch) (g : EG) (lo : Nat) (ma : Nat → Nat) (hA : MA lo ma) (σ : Sg) (u : Nat → Int64) (l : Int32) (hI : INV σ) : Met la yX7_again wsX7_again ({ frames := 3, cells := 0, slots := 0, locals := 65 } : Room) (va_Pc [.ref (ma 0), .int l] (fun U => MR g ma σ u U.heap ∧ KK g U)) (QM (.returned (some (.int (if okL σ l ∧ σ 21 (ti l) = 120 then f_waiting (up (up σ 0 0 0) 21 (ti l) 119) else 0)))) (fun H1 => MR g ma (F_again σ l) u H1) (mown ma)) 0 0 (fun q => lo ≤ q) := by
  refine Met.ofW (cc := cX7_again) (maxL := 2) (ret := (some .int)) (by decide) rfl ?_
  intro p e s m args below meth c s₁ B hml hv
  obtain ⟨rfl, hR0, hK⟩ := hv
  have hx := B.exec
  have hb := B.bytes
  have hr := B.returns
  have hts := atoms_spec (ws := wsX7_again) B.pre
  have hown : s.vm.findClass RX7 = some m.cls := findClass_of_methodNamed B.named
  have hlocks := B.notSynchronized
  have hM : MS g lo ma σ u s.heap s.heap [] := MS.start hR0
  have hinX7 : ∀ w ∈ wsX70, w ∈ wsX7_again := by decide +kernel
  have lk59 := hts (.fieldLink RX7 59 "DyehouseLedgerModel" "state" "[C") (by decide +kernel)
  have hl := lv_entry ([.ref (ma 0), .int l]) (n := 2) (Nat.le_of_ble_eq_true rfl)
  rw [lg_entry_eq]
  generalize (lg_sl ([.ref (ma 0), .int l]) ++ List.replicate (2 - (lg_sl ([.ref (ma 0), .int l])).length) Slot.unset).toArray = ls at hl ⊢
  have hl : lv_has ls 2 [(0, .ref (ma 0)), (1, .int l)] := hl
  refine lv_aload_n hx hb dX7_again_0 rfl (lv_at hl 0 rfl) ?_
  refine lv_iload_n hx hb dX7_again_1 rfl (lv_at hl 1 rfl) ?_
  refine lv_bipush (v := 120) hx hb dX7_again_2 (by decide) ?_
  refine mc_mu (n := 2) (As := [.int l, .int 120]) (rest := []) (v := [.int (if ¬ (okL σ l ∧ σ 21 (ti l) = 120) then 1 else 0)]) ⟨hx, hb, hml, hown, hts⟩ hK hM (k_isNot la g lo ma hA σ u l 120 hI) gX7_again_X7_isNot rfl rfl rfl (by decide +kernel) ⟨Nat.le_of_ble_eq_true rfl, Nat.le_of_ble_eq_true rfl⟩ rfl hl.1 rfl (Nat.le_of_ble_eq_true rfl) dX7_again_4 ⟨Nat.zero_le _, Nat.zero_le _⟩ rfl (fun H locs hM => ?_)
  refine br_if_eq (c9 := ¬ (okL σ l ∧ σ 21 (ti l) = 120)) (tgt := 12) hx hb dX7_again_7 (by decide) (fun c_1 => ?_) (fun c_1 => ?_)
  · replace c_1 := Decidable.not_not.mp c_1
    replace hM := hM.cg (congrArg (fun z => up σ 0 0 z) (tN_ok c_1))
    have kl := (okL_in hI l).mp c_1.1
    refine lv_aload_n hx hb dX7_again_12 rfl (lv_at hl 0 rfl) ?_
    refine m_get (v := .ref (ma 21)) hx hb hts hinX7 hown hK hM 21 (by decide) lk59 rfl dX7_again_13 ?_
    refine lv_iload_n hx hb dX7_again_16 rfl (lv_at hl 1 rfl) ?_
    refine lv_bipush (v := 119) hx hb dX7_again_17 (by decide) ?_
    refine m_cast hx hb hA hK hM (i := l) (x := 119) (by decide) (lot24 hI kl) dX7_again_19 (fun H locs hM => ?_)
    refine lv_aload_n hx hb dX7_again_20 rfl (lv_at hl 0 rfl) ?_
    refine mc_ro (n := 0) (As := []) (rest := []) (v := [.int (f_waiting (up (up σ 0 0 0) 21 (ti l) 119))]) ⟨hx, hb, hml, hown, hts⟩ hK hM (k_waiting la g ma (up (up σ 0 0 0) 21 (ti l) 119) u  hI.1.2.2.1) gX7_again_X7_waiting rfl rfl rfl (by decide +kernel) ⟨Nat.le_of_ble_eq_true rfl, Nat.le_of_ble_eq_true rfl⟩ rfl hl.1 rfl (Nat.le_of_ble_eq_true rfl) dX7_again_21 ⟨Nat.zero_le _, Nat.zero_le _⟩ rfl ?_
    exact W.iret (v := (f_waiting (up (up σ 0 0 0) 21 (ti l) 119))) hx hb hr (fun t ht hW => ⟨congrArg (fun z => Outcome.returned (some (Value.int z))) (by first | rfl | (simp [-Int32.not_lt, -Int32.not_le, okL, okV, okO, okR, okD, isP, shP, F_again, tL, tV, tO, tD, tLV, tN, c_1]; done) | (simp_all [-Int32.not_lt, -Int32.not_le, okL, okV, okO, okR, okD, isP, shP, F_again, tL, tV, tO, tD, tLV, tN]; done)), by rw [ht]; exact (hM.cg (by first | rfl | (simp [-Int32.not_lt, -Int32.not_le, okL, okV, okO, okR, okD, isP, shP, F_again, tL, tV, tO, tD, tLV, tN, c_1, up_id]; done) | (simp_all [-Int32.not_lt, -Int32.not_le, okL, okV, okO, okR, okD, isP, shP, F_again, tL, tV, tO, tD, tLV, tN, up_id]; done))).1, by rw [ht]; exact hM.2.1, fun q hq => by rw [ht]; exact hM.2.2.1 q hq⟩) hM.2.2.2 dX7_again_24
  · refine lv_iconst (v := 0) hx hb dX7_again_10 (by decide) ?_
    exact W.iret (v := 0) hx hb hr (fun t ht hW => ⟨congrArg (fun z => Outcome.returned (some (Value.int z))) (by first | rfl | (simp [-Int32.not_lt, -Int32.not_le, okL, okV, okO, okR, okD, isP, shP, F_again, tL, tV, tO, tD, tLV, tN, c_1]; done) | (simp_all [-Int32.not_lt, -Int32.not_le, okL, okV, okO, okR, okD, isP, shP, F_again, tL, tV, tO, tD, tLV, tN]; done)), by rw [ht]; exact (hM.cg (by first | rfl | (simp [-Int32.not_lt, -Int32.not_le, okL, okV, okO, okR, okD, isP, shP, F_again, tL, tV, tO, tD, tLV, tN, c_1, up_id]; done) | (simp_all [-Int32.not_lt, -Int32.not_le, okL, okV, okO, okR, okD, isP, shP, F_again, tL, tV, tO, tD, tLV, tN, up_id]; done))).1, by rw [ht]; exact hM.2.1, fun q hq => by rw [ht]; exact hM.2.2.1 q hq⟩) hM.2.2.2 dX7_again_11
set_option maxHeartbeats 4000000 in
set_option maxRecDepth 100000 in
theorem k_plan (la : Launch) (g : EG) (lo : Nat) (ma : Nat → Nat) (hA : MA lo ma) (σ : Sg) (u : Nat → Int64) (l v : Int32) (hI : INV σ) : Met la yX7_plan wsX7_plan ({ frames := 2, cells := 0, slots := 0, locals := 43 } : Room) (va_Pc [.ref (ma 0), .int l, .int v] (fun U => MR g ma σ u U.heap ∧ KK g U)) (QM (.returned (some (.int (if t_plan σ l v = 0 then f_inPlan (up (up σ 0 0 0) 20 (ti l) v) v else 0)))) (fun H1 => MR g ma (F_plan σ l v) u H1) (mown ma)) 0 0 (fun q => lo ≤ q) := by
  refine Met.ofW (cc := cX7_plan) (maxL := 3) (ret := (some .int)) (by decide) rfl ?_
  intro p e s m args below meth c s₁ B hml hv
  obtain ⟨rfl, hR0, hK⟩ := hv
  have hx := B.exec
  have hb := B.bytes
  have hr := B.returns
  have hts := atoms_spec (ws := wsX7_plan) B.pre
  have hown : s.vm.findClass RX7 = some m.cls := findClass_of_methodNamed B.named
  have hlocks := B.notSynchronized
  have hM : MS g lo ma σ u s.heap s.heap [] := MS.start hR0
  have hinX7 : ∀ w ∈ wsX70, w ∈ wsX7_plan := by decide +kernel
  have lk41 := hts (.fieldLink RX7 41 "DyehouseLedgerModel" "weight" "[I") (by decide +kernel)
  have lk56 := hts (.fieldLink RX7 56 "DyehouseLedgerModel" "plan" "[I") (by decide +kernel)
  have lk59 := hts (.fieldLink RX7 59 "DyehouseLedgerModel" "state" "[C") (by decide +kernel)
  have lk63 := hts (.fieldLink RX7 63 "DyehouseLedgerModel" "room" "[I") (by decide +kernel)
  have hl := lv_entry ([.ref (ma 0), .int l, .int v]) (n := 3) (Nat.le_of_ble_eq_true rfl)
  rw [lg_entry_eq]
  generalize (lg_sl ([.ref (ma 0), .int l, .int v]) ++ List.replicate (3 - (lg_sl ([.ref (ma 0), .int l, .int v])).length) Slot.unset).toArray = ls at hl ⊢
  have hl : lv_has ls 3 [(0, .ref (ma 0)), (1, .int l), (2, .int v)] := hl
  refine lv_aload_n hx hb dX7_plan_0 rfl (lv_at hl 0 rfl) ?_
  refine lv_iload_n hx hb dX7_plan_1 rfl (lv_at hl 1 rfl) ?_
  refine mc_mu (n := 1) (As := [.int l]) (rest := []) (v := [.int (if ¬ okL σ l then 1 else 0)]) ⟨hx, hb, hml, hown, hts⟩ hK hM (k_noLot la g lo ma hA σ u l ) gX7_plan_X7_noLot rfl rfl rfl (by decide +kernel) ⟨Nat.le_of_ble_eq_true rfl, Nat.le_of_ble_eq_true rfl⟩ rfl hl.1 rfl (Nat.le_of_ble_eq_true rfl) dX7_plan_2 ⟨Nat.zero_le _, Nat.zero_le _⟩ rfl (fun H locs hM => ?_)
  refine br_if_ne (c9 := ¬ okL σ l) (tgt := 16) hx hb dX7_plan_5 (by decide) (fun c_1 => ?_) (fun c_1 => ?_)
  · replace hM := hM.cg (congrArg (fun z => up σ 0 0 z) (if_neg c_1))
    refine lv_iconst (v := 0) hx hb dX7_plan_16 (by decide) ?_
    exact W.iret (v := 0) hx hb hr (fun t ht hW => ⟨congrArg (fun z => Outcome.returned (some (Value.int z))) (by first | rfl | (simp [-Int32.not_lt, -Int32.not_le, okL, okV, okO, okR, okD, isP, shP, F_plan, t_plan, tL, tV, tO, tD, tLV, tN, c_1]; done) | (simp_all [-Int32.not_lt, -Int32.not_le, okL, okV, okO, okR, okD, isP, shP, F_plan, t_plan, tL, tV, tO, tD, tLV, tN]; done)), by rw [ht]; exact (hM.cg (by first | rfl | (simp [-Int32.not_lt, -Int32.not_le, okL, okV, okO, okR, okD, isP, shP, F_plan, t_plan, tL, tV, tO, tD, tLV, tN, c_1, up_id]; done) | (simp_all [-Int32.not_lt, -Int32.not_le, okL, okV, okO, okR, okD, isP, shP, F_plan, t_plan, tL, tV, tO, tD, tLV, tN, up_id]; done))).1, by rw [ht]; exact hM.2.1, fun q hq => by rw [ht]; exact hM.2.2.1 q hq⟩) hM.2.2.2 dX7_plan_17
  · replace c_1 := Decidable.not_not.mp c_1
    replace hM := hM.cg (congrArg (fun z => up σ 0 0 z) (if_pos c_1))
    have kl := (okL_in hI l).mp c_1
    refine lv_aload_n hx hb dX7_plan_8 rfl (lv_at hl 0 rfl) ?_
    refine lv_iload_n hx hb dX7_plan_9 rfl (lv_at hl 2 rfl) ?_
    refine mc_mu (n := 1) (As := [.int v]) (rest := []) (v := [.int (if ¬ okV σ v then 1 else 0)]) ⟨hx, hb, hml, hown, hts⟩ hK hM (k_noVat la g lo ma hA (up σ 0 0 0) u v ) gX7_plan_X7_noVat rfl rfl rfl (by decide +kernel) ⟨Nat.le_of_ble_eq_true rfl, Nat.le_of_ble_eq_true rfl⟩ rfl hl.1 rfl (Nat.le_of_ble_eq_true rfl) dX7_plan_10 ⟨Nat.zero_le _, Nat.zero_le _⟩ rfl (fun H locs hM => ?_)
    replace hM := hM.cg (up_up σ 0 0 0 (if okV σ v then 0 else 1))
    refine br_if_eq (c9 := ¬ okV σ v) (tgt := 18) hx hb dX7_plan_13 (by decide) (fun c_2 => ?_) (fun c_2 => ?_)
    · replace c_2 := Decidable.not_not.mp c_2
      replace hM := hM.cg (congrArg (fun z => up σ 0 0 z) (if_pos c_2))
      have kv := (okV_in hI v).mp c_2
      refine lv_aload_n hx hb dX7_plan_18 rfl (lv_at hl 0 rfl) ?_
      refine m_get (v := .ref (ma 21)) hx hb hts hinX7 hown hK hM 21 (by decide) lk59 rfl dX7_plan_19 ?_
      refine lv_iload_n hx hb dX7_plan_22 rfl (lv_at hl 1 rfl) ?_
      refine m_cald (x := (σ 21 (ti l))) hx hb hK hM (i := l) (lot24 hI kl) rfl dX7_plan_23 ?_
      refine lv_bipush (v := 119) hx hb dX7_plan_24 (by decide) ?_
      refine lv_icmp_ne (tgt := 49) hx hb dX7_plan_26 (by decide) (fun c_3 => ?_) (fun c_3 => ?_)
      · refine lv_aload_n hx hb dX7_plan_49 rfl (lv_at hl 0 rfl) ?_
        refine lv_iconst (v := 2) hx hb dX7_plan_50 (by decide) ?_
        refine mc_mu (n := 1) (As := [.int 2]) (rest := []) (v := [.int 0]) ⟨hx, hb, hml, hown, hts⟩ hK hM (k_refuse la g lo ma hA (up σ 0 0 0) u 2 ) gX7_plan_X7_refuse rfl rfl rfl (by decide +kernel) ⟨Nat.le_of_ble_eq_true rfl, Nat.le_of_ble_eq_true rfl⟩ rfl hl.1 rfl (Nat.le_of_ble_eq_true rfl) dX7_plan_51 ⟨Nat.zero_le _, Nat.zero_le _⟩ rfl (fun H locs hM => ?_)
        replace hM := hM.cg (up_up σ 0 0 0 2)
        exact W.iret (v := 0) hx hb hr (fun t ht hW => ⟨congrArg (fun z => Outcome.returned (some (Value.int z))) (by first | rfl | (simp [-Int32.not_lt, -Int32.not_le, okL, okV, okO, okR, okD, isP, shP, F_plan, t_plan, tL, tV, tO, tD, tLV, tN, c_1, c_2, c_3]; done) | (simp_all [-Int32.not_lt, -Int32.not_le, okL, okV, okO, okR, okD, isP, shP, F_plan, t_plan, tL, tV, tO, tD, tLV, tN]; done)), by rw [ht]; exact (hM.cg (by first | rfl | (simp [-Int32.not_lt, -Int32.not_le, okL, okV, okO, okR, okD, isP, shP, F_plan, t_plan, tL, tV, tO, tD, tLV, tN, c_1, c_2, c_3, up_id]; done) | (simp_all [-Int32.not_lt, -Int32.not_le, okL, okV, okO, okR, okD, isP, shP, F_plan, t_plan, tL, tV, tO, tD, tLV, tN, up_id]; done))).1, by rw [ht]; exact hM.2.1, fun q hq => by rw [ht]; exact hM.2.2.1 q hq⟩) hM.2.2.2 dX7_plan_54
      · refine lv_aload_n hx hb dX7_plan_29 rfl (lv_at hl 0 rfl) ?_
        refine m_get (v := .ref (ma 20)) hx hb hts hinX7 hown hK hM 20 (by decide) lk56 rfl dX7_plan_30 ?_
        refine lv_iload_n hx hb dX7_plan_33 rfl (lv_at hl 1 rfl) ?_
        refine m_iald (x := (σ 20 (ti l))) hx hb hK hM 20 (by decide) rfl (i := l) (n := 24) (lot24 hI kl) rfl dX7_plan_34 ?_
        refine lv_iconst (v := (-1)) hx hb dX7_plan_35 (by decide) ?_
        refine lv_icmp_ne (tgt := 49) hx hb dX7_plan_36 (by decide) (fun c_4 => ?_) (fun c_4 => ?_)
        · refine lv_aload_n hx hb dX7_plan_49 rfl (lv_at hl 0 rfl) ?_
          refine lv_iconst (v := 2) hx hb dX7_plan_50 (by decide) ?_
          refine mc_mu (n := 1) (As := [.int 2]) (rest := []) (v := [.int 0]) ⟨hx, hb, hml, hown, hts⟩ hK hM (k_refuse la g lo ma hA (up σ 0 0 0) u 2 ) gX7_plan_X7_refuse rfl rfl rfl (by decide +kernel) ⟨Nat.le_of_ble_eq_true rfl, Nat.le_of_ble_eq_true rfl⟩ rfl hl.1 rfl (Nat.le_of_ble_eq_true rfl) dX7_plan_51 ⟨Nat.zero_le _, Nat.zero_le _⟩ rfl (fun H locs hM => ?_)
          replace hM := hM.cg (up_up σ 0 0 0 2)
          exact W.iret (v := 0) hx hb hr (fun t ht hW => ⟨congrArg (fun z => Outcome.returned (some (Value.int z))) (by first | rfl | (simp [-Int32.not_lt, -Int32.not_le, okL, okV, okO, okR, okD, isP, shP, F_plan, t_plan, tL, tV, tO, tD, tLV, tN, c_1, c_2, c_3, c_4]; done) | (simp_all [-Int32.not_lt, -Int32.not_le, okL, okV, okO, okR, okD, isP, shP, F_plan, t_plan, tL, tV, tO, tD, tLV, tN]; done)), by rw [ht]; exact (hM.cg (by first | rfl | (simp [-Int32.not_lt, -Int32.not_le, okL, okV, okO, okR, okD, isP, shP, F_plan, t_plan, tL, tV, tO, tD, tLV, tN, c_1, c_2, c_3, c_4, up_id]; done) | (simp_all [-Int32.not_lt, -Int32.not_le, okL, okV, okO, okR, okD, isP, shP, F_plan, t_plan, tL, tV, tO, tD, tLV, tN, up_id]; done))).1, by rw [ht]; exact hM.2.1, fun q hq => by rw [ht]; exact hM.2.2.1 q hq⟩) hM.2.2.2 dX7_plan_54
        · refine lv_aload_n hx hb dX7_plan_39 rfl (lv_at hl 0 rfl) ?_
          refine lv_iload_n hx hb dX7_plan_40 rfl (lv_at hl 2 rfl) ?_
          refine mc_ro (n := 1) (As := [.int v]) (rest := []) (v := [.int (f_inPlan σ v)]) ⟨hx, hb, hml, hown, hts⟩ hK hM (k_inPlan la g ma (up σ 0 0 0) u v hI.1.2.2.1) gX7_plan_X7_inPlan rfl rfl rfl (by decide +kernel) ⟨Nat.le_of_ble_eq_true rfl, Nat.le_of_ble_eq_true rfl⟩ rfl hl.1 rfl (Nat.le_of_ble_eq_true rfl) dX7_plan_41 ⟨Nat.zero_le _, Nat.zero_le _⟩ rfl ?_
          refine lv_bipush (v := 6) hx hb dX7_plan_44 (by decide) ?_
          refine lv_icmp_ne (tgt := 55) hx hb dX7_plan_46 (by decide) (fun c_5 => ?_) (fun c_5 => ?_)
          · refine lv_aload_n hx hb dX7_plan_55 rfl (lv_at hl 0 rfl) ?_
            refine m_get (v := .ref (ma 15)) hx hb hts hinX7 hown hK hM 15 (by decide) lk41 rfl dX7_plan_56 ?_
            refine lv_iload_n hx hb dX7_plan_59 rfl (lv_at hl 1 rfl) ?_
            refine m_iald (x := (σ 15 (ti l))) hx hb hK hM 15 (by decide) rfl (i := l) (n := 24) (lot24 hI kl) rfl dX7_plan_60 ?_
            refine lv_aload_n hx hb dX7_plan_61 rfl (lv_at hl 0 rfl) ?_
            refine m_get (v := .ref (ma 22)) hx hb hts hinX7 hown hK hM 22 (by decide) lk63 rfl dX7_plan_62 ?_
            refine lv_iload_n hx hb dX7_plan_65 rfl (lv_at hl 2 rfl) ?_
            refine m_iald (x := (σ 22 (ti v))) hx hb hK hM 22 (by decide) rfl (i := v) (n := 4) (vat4 hI kv) rfl dX7_plan_66 ?_
            refine lv_icmp_le (tgt := 76) hx hb dX7_plan_67 (by decide) (fun c_6 => ?_) (fun c_6 => ?_)
            · replace c_6 := Int32.not_lt.mpr c_6
              refine lv_aload_n hx hb dX7_plan_76 rfl (lv_at hl 0 rfl) ?_
              refine m_get (v := .ref (ma 20)) hx hb hts hinX7 hown hK hM 20 (by decide) lk56 rfl dX7_plan_77 ?_
              refine lv_iload_n hx hb dX7_plan_80 rfl (lv_at hl 1 rfl) ?_
              refine lv_iload_n hx hb dX7_plan_81 rfl (lv_at hl 2 rfl) ?_
              refine m_iast hx hb hA hK hM 20 (by decide) rfl (i := l) (n := 24) (lot24 hI kl) dX7_plan_82 (fun H locs hM => ?_)
              refine lv_aload_n hx hb dX7_plan_83 rfl (lv_at hl 0 rfl) ?_
              refine lv_iload_n hx hb dX7_plan_84 rfl (lv_at hl 2 rfl) ?_
              refine mc_ro (n := 1) (As := [.int v]) (rest := []) (v := [.int (f_inPlan (up (up σ 0 0 0) 20 (ti l) v) v)]) ⟨hx, hb, hml, hown, hts⟩ hK hM (k_inPlan la g ma (up (up σ 0 0 0) 20 (ti l) v) u v hI.1.2.2.1) gX7_plan_X7_inPlan rfl rfl rfl (by decide +kernel) ⟨Nat.le_of_ble_eq_true rfl, Nat.le_of_ble_eq_true rfl⟩ rfl hl.1 rfl (Nat.le_of_ble_eq_true rfl) dX7_plan_85 ⟨Nat.zero_le _, Nat.zero_le _⟩ rfl ?_
              exact W.iret (v := (f_inPlan (up (up σ 0 0 0) 20 (ti l) v) v)) hx hb hr (fun t ht hW => ⟨congrArg (fun z => Outcome.returned (some (Value.int z))) (by first | rfl | (simp [-Int32.not_lt, -Int32.not_le, okL, okV, okO, okR, okD, isP, shP, F_plan, t_plan, tL, tV, tO, tD, tLV, tN, c_1, c_2, c_3, c_4, c_5, c_6]; done) | (simp_all [-Int32.not_lt, -Int32.not_le, okL, okV, okO, okR, okD, isP, shP, F_plan, t_plan, tL, tV, tO, tD, tLV, tN]; done)), by rw [ht]; exact (hM.cg (by first | rfl | (simp [-Int32.not_lt, -Int32.not_le, okL, okV, okO, okR, okD, isP, shP, F_plan, t_plan, tL, tV, tO, tD, tLV, tN, c_1, c_2, c_3, c_4, c_5, c_6, up_id]; done) | (simp_all [-Int32.not_lt, -Int32.not_le, okL, okV, okO, okR, okD, isP, shP, F_plan, t_plan, tL, tV, tO, tD, tLV, tN, up_id]; done))).1, by rw [ht]; exact hM.2.1, fun q hq => by rw [ht]; exact hM.2.2.1 q hq⟩) hM.2.2.2 dX7_plan_88
            · replace c_6 := Int32.not_le.mp c_6
              refine lv_aload_n hx hb dX7_plan_70 rfl (lv_at hl 0 rfl) ?_
              refine lv_iconst (v := 3) hx hb dX7_plan_71 (by decide) ?_
              refine mc_mu (n := 1) (As := [.int 3]) (rest := []) (v := [.int 0]) ⟨hx, hb, hml, hown, hts⟩ hK hM (k_refuse la g lo ma hA (up σ 0 0 0) u 3 ) gX7_plan_X7_refuse rfl rfl rfl (by decide +kernel) ⟨Nat.le_of_ble_eq_true rfl, Nat.le_of_ble_eq_true rfl⟩ rfl hl.1 rfl (Nat.le_of_ble_eq_true rfl) dX7_plan_72 ⟨Nat.zero_le _, Nat.zero_le _⟩ rfl (fun H locs hM => ?_)
              replace hM := hM.cg (up_up σ 0 0 0 3)
              exact W.iret (v := 0) hx hb hr (fun t ht hW => ⟨congrArg (fun z => Outcome.returned (some (Value.int z))) (by first | rfl | (simp [-Int32.not_lt, -Int32.not_le, okL, okV, okO, okR, okD, isP, shP, F_plan, t_plan, tL, tV, tO, tD, tLV, tN, c_1, c_2, c_3, c_4, c_5, c_6]; done) | (simp_all [-Int32.not_lt, -Int32.not_le, okL, okV, okO, okR, okD, isP, shP, F_plan, t_plan, tL, tV, tO, tD, tLV, tN]; done)), by rw [ht]; exact (hM.cg (by first | rfl | (simp [-Int32.not_lt, -Int32.not_le, okL, okV, okO, okR, okD, isP, shP, F_plan, t_plan, tL, tV, tO, tD, tLV, tN, c_1, c_2, c_3, c_4, c_5, c_6, up_id]; done) | (simp_all [-Int32.not_lt, -Int32.not_le, okL, okV, okO, okR, okD, isP, shP, F_plan, t_plan, tL, tV, tO, tD, tLV, tN, up_id]; done))).1, by rw [ht]; exact hM.2.1, fun q hq => by rw [ht]; exact hM.2.2.1 q hq⟩) hM.2.2.2 dX7_plan_75
          · refine lv_aload_n hx hb dX7_plan_49 rfl (lv_at hl 0 rfl) ?_
            refine lv_iconst (v := 2) hx hb dX7_plan_50 (by decide) ?_
            refine mc_mu (n := 1) (As := [.int 2]) (rest := []) (v := [.int 0]) ⟨hx, hb, hml, hown, hts⟩ hK hM (k_refuse la g lo ma hA (up σ 0 0 0) u 2 ) gX7_plan_X7_refuse rfl rfl rfl (by decide +kernel) ⟨Nat.le_of_ble_eq_true rfl, Nat.le_of_ble_eq_true rfl⟩ rfl hl.1 rfl (Nat.le_of_ble_eq_true rfl) dX7_plan_51 ⟨Nat.zero_le _, Nat.zero_le _⟩ rfl (fun H locs hM => ?_)
            replace hM := hM.cg (up_up σ 0 0 0 2)
            exact W.iret (v := 0) hx hb hr (fun t ht hW => ⟨congrArg (fun z => Outcome.returned (some (Value.int z))) (by first | rfl | (simp [-Int32.not_lt, -Int32.not_le, okL, okV, okO, okR, okD, isP, shP, F_plan, t_plan, tL, tV, tO, tD, tLV, tN, c_1, c_2, c_3, c_4, c_5]; done) | (simp_all [-Int32.not_lt, -Int32.not_le, okL, okV, okO, okR, okD, isP, shP, F_plan, t_plan, tL, tV, tO, tD, tLV, tN]; done)), by rw [ht]; exact (hM.cg (by first | rfl | (simp [-Int32.not_lt, -Int32.not_le, okL, okV, okO, okR, okD, isP, shP, F_plan, t_plan, tL, tV, tO, tD, tLV, tN, c_1, c_2, c_3, c_4, c_5, up_id]; done) | (simp_all [-Int32.not_lt, -Int32.not_le, okL, okV, okO, okR, okD, isP, shP, F_plan, t_plan, tL, tV, tO, tD, tLV, tN, up_id]; done))).1, by rw [ht]; exact hM.2.1, fun q hq => by rw [ht]; exact hM.2.2.1 q hq⟩) hM.2.2.2 dX7_plan_54
    · replace hM := hM.cg (congrArg (fun z => up σ 0 0 z) (if_neg c_2))
      refine lv_iconst (v := 0) hx hb dX7_plan_16 (by decide) ?_
      exact W.iret (v := 0) hx hb hr (fun t ht hW => ⟨congrArg (fun z => Outcome.returned (some (Value.int z))) (by first | rfl | (simp [-Int32.not_lt, -Int32.not_le, okL, okV, okO, okR, okD, isP, shP, F_plan, t_plan, tL, tV, tO, tD, tLV, tN, c_1, c_2]; done) | (simp_all [-Int32.not_lt, -Int32.not_le, okL, okV, okO, okR, okD, isP, shP, F_plan, t_plan, tL, tV, tO, tD, tLV, tN]; done)), by rw [ht]; exact (hM.cg (by first | rfl | (simp [-Int32.not_lt, -Int32.not_le, okL, okV, okO, okR, okD, isP, shP, F_plan, t_plan, tL, tV, tO, tD, tLV, tN, c_1, c_2, up_id]; done) | (simp_all [-Int32.not_lt, -Int32.not_le, okL, okV, okO, okR, okD, isP, shP, F_plan, t_plan, tL, tV, tO, tD, tLV, tN, up_id]; done))).1, by rw [ht]; exact hM.2.1, fun q hq => by rw [ht]; exact hM.2.2.1 q hq⟩) hM.2.2.2 dX7_plan_17
set_option maxHeartbeats 4000000 in
set_option maxRecDepth 100000 in
theorem k_unplan (la : Launch) (g : EG) (lo : Nat) (ma : Nat → Nat) (hA : MA lo ma) (σ : Sg) (u : Nat → Int64) (l : Int32) (hI : INV σ) : Met la yX7_unplan wsX7_unplan ({ frames := 2, cells := 0, slots := 0, locals := 43 } : Room) (va_Pc [.ref (ma 0), .int l] (fun U => MR g ma σ u U.heap ∧ KK g U)) (QM (.returned (some (.int (if t_unplan σ l = 0 then σ 20 (ti l) else 0)))) (fun H1 => MR g ma (F_unplan σ l) u H1) (mown ma)) 0 0 (fun q => lo ≤ q) := by
  refine Met.ofW (cc := cX7_unplan) (maxL := 3) (ret := (some .int)) (by decide) rfl ?_
  intro p e s m args below meth c s₁ B hml hv
  obtain ⟨rfl, hR0, hK⟩ := hv
  have hx := B.exec
  have hb := B.bytes
  have hr := B.returns
  have hts := atoms_spec (ws := wsX7_unplan) B.pre
  have hown : s.vm.findClass RX7 = some m.cls := findClass_of_methodNamed B.named
  have hlocks := B.notSynchronized
  have hM : MS g lo ma σ u s.heap s.heap [] := MS.start hR0
  have hinX7 : ∀ w ∈ wsX70, w ∈ wsX7_unplan := by decide +kernel
  have lk56 := hts (.fieldLink RX7 56 "DyehouseLedgerModel" "plan" "[I") (by decide +kernel)
  have hl := lv_entry ([.ref (ma 0), .int l]) (n := 3) (Nat.le_of_ble_eq_true rfl)
  rw [lg_entry_eq]
  generalize (lg_sl ([.ref (ma 0), .int l]) ++ List.replicate (3 - (lg_sl ([.ref (ma 0), .int l])).length) Slot.unset).toArray = ls at hl ⊢
  have hl : lv_has ls 3 [(0, .ref (ma 0)), (1, .int l)] := hl
  refine lv_aload_n hx hb dX7_unplan_0 rfl (lv_at hl 0 rfl) ?_
  refine lv_iload_n hx hb dX7_unplan_1 rfl (lv_at hl 1 rfl) ?_
  refine mc_mu (n := 1) (As := [.int l]) (rest := []) (v := [.int (if ¬ okL σ l then 1 else 0)]) ⟨hx, hb, hml, hown, hts⟩ hK hM (k_noLot la g lo ma hA σ u l ) gX7_unplan_X7_noLot rfl rfl rfl (by decide +kernel) ⟨Nat.le_of_ble_eq_true rfl, Nat.le_of_ble_eq_true rfl⟩ rfl hl.1 rfl (Nat.le_of_ble_eq_true rfl) dX7_unplan_2 ⟨Nat.zero_le _, Nat.zero_le _⟩ rfl (fun H locs hM => ?_)
  refine br_if_eq (c9 := ¬ okL σ l) (tgt := 10) hx hb dX7_unplan_5 (by decide) (fun c_1 => ?_) (fun c_1 => ?_)
  · replace c_1 := Decidable.not_not.mp c_1
    replace hM := hM.cg (congrArg (fun z => up σ 0 0 z) (if_pos c_1))
    have kl := (okL_in hI l).mp c_1
    refine lv_aload_n hx hb dX7_unplan_10 rfl (lv_at hl 0 rfl) ?_
    refine m_get (v := .ref (ma 20)) hx hb hts hinX7 hown hK hM 20 (by decide) lk56 rfl dX7_unplan_11 ?_
    refine lv_iload_n hx hb dX7_unplan_14 rfl (lv_at hl 1 rfl) ?_
    refine m_iald (x := (σ 20 (ti l))) hx hb hK hM 20 (by decide) rfl (i := l) (n := 24) (lot24 hI kl) rfl dX7_unplan_15 ?_
    refine lv_iconst (v := (-1)) hx hb dX7_unplan_16 (by decide) ?_
    refine lv_icmp_ne (tgt := 26) hx hb dX7_unplan_17 (by decide) (fun c_2 => ?_) (fun c_2 => ?_)
    · refine lv_aload_n hx hb dX7_unplan_26 rfl (lv_at hl 0 rfl) ?_
      refine m_get (v := .ref (ma 20)) hx hb hts hinX7 hown hK hM 20 (by decide) lk56 rfl dX7_unplan_27 ?_
      refine lv_iload_n hx hb dX7_unplan_30 rfl (lv_at hl 1 rfl) ?_
      refine m_iald (x := (σ 20 (ti l))) hx hb hK hM 20 (by decide) rfl (i := l) (n := 24) (lot24 hI kl) rfl dX7_unplan_31 ?_
      refine lv_istore_n (lv' := [(2, .int (σ 20 (ti l))), (0, .ref (ma 0)), (1, .int l)]) hx hb dX7_unplan_32 rfl hl (by decide) rfl (fun ls hl => ?_)
      refine lv_aload_n hx hb dX7_unplan_33 rfl (lv_at hl 1 rfl) ?_
      refine m_get (v := .ref (ma 20)) hx hb hts hinX7 hown hK hM 20 (by decide) lk56 rfl dX7_unplan_34 ?_
      refine lv_iload_n hx hb dX7_unplan_37 rfl (lv_at hl 2 rfl) ?_
      refine lv_iconst (v := (-1)) hx hb dX7_unplan_38 (by decide) ?_
      refine m_iast hx hb hA hK hM 20 (by decide) rfl (i := l) (n := 24) (lot24 hI kl) dX7_unplan_39 (fun H locs hM => ?_)
      refine lv_iload_n hx hb dX7_unplan_40 rfl (lv_at hl 0 rfl) ?_
      exact W.iret (v := (σ 20 (ti l))) hx hb hr (fun t ht hW => ⟨congrArg (fun z => Outcome.returned (some (Value.int z))) (by first | rfl | (simp [-Int32.not_lt, -Int32.not_le, okL, okV, okO, okR, okD, isP, shP, F_unplan, t_unplan, tL, tV, tO, tD, tLV, tN, c_1, c_2]; done) | (simp_all [-Int32.not_lt, -Int32.not_le, okL, okV, okO, okR, okD, isP, shP, F_unplan, t_unplan, tL, tV, tO, tD, tLV, tN]; done)), by rw [ht]; exact (hM.cg (by first | rfl | (simp [-Int32.not_lt, -Int32.not_le, okL, okV, okO, okR, okD, isP, shP, F_unplan, t_unplan, tL, tV, tO, tD, tLV, tN, c_1, c_2, up_id]; done) | (simp_all [-Int32.not_lt, -Int32.not_le, okL, okV, okO, okR, okD, isP, shP, F_unplan, t_unplan, tL, tV, tO, tD, tLV, tN, up_id]; done))).1, by rw [ht]; exact hM.2.1, fun q hq => by rw [ht]; exact hM.2.2.1 q hq⟩) hM.2.2.2 dX7_unplan_41
    · refine lv_aload_n hx hb dX7_unplan_20 rfl (lv_at hl 0 rfl) ?_
      refine lv_iconst (v := 2) hx hb dX7_unplan_21 (by decide) ?_
      refine mc_mu (n := 1) (As := [.int 2]) (rest := []) (v := [.int 0]) ⟨hx, hb, hml, hown, hts⟩ hK hM (k_refuse la g lo ma hA (up σ 0 0 0) u 2 ) gX7_unplan_X7_refuse rfl rfl rfl (by decide +kernel) ⟨Nat.le_of_ble_eq_true rfl, Nat.le_of_ble_eq_true rfl⟩ rfl hl.1 rfl (Nat.le_of_ble_eq_true rfl) dX7_unplan_22 ⟨Nat.zero_le _, Nat.zero_le _⟩ rfl (fun H locs hM => ?_)
      replace hM := hM.cg (up_up σ 0 0 0 2)
      exact W.iret (v := 0) hx hb hr (fun t ht hW => ⟨congrArg (fun z => Outcome.returned (some (Value.int z))) (by first | rfl | (simp [-Int32.not_lt, -Int32.not_le, okL, okV, okO, okR, okD, isP, shP, F_unplan, t_unplan, tL, tV, tO, tD, tLV, tN, c_1, c_2]; done) | (simp_all [-Int32.not_lt, -Int32.not_le, okL, okV, okO, okR, okD, isP, shP, F_unplan, t_unplan, tL, tV, tO, tD, tLV, tN]; done)), by rw [ht]; exact (hM.cg (by first | rfl | (simp [-Int32.not_lt, -Int32.not_le, okL, okV, okO, okR, okD, isP, shP, F_unplan, t_unplan, tL, tV, tO, tD, tLV, tN, c_1, c_2, up_id]; done) | (simp_all [-Int32.not_lt, -Int32.not_le, okL, okV, okO, okR, okD, isP, shP, F_unplan, t_unplan, tL, tV, tO, tD, tLV, tN, up_id]; done))).1, by rw [ht]; exact hM.2.1, fun q hq => by rw [ht]; exact hM.2.2.1 q hq⟩) hM.2.2.2 dX7_unplan_25
  · replace hM := hM.cg (congrArg (fun z => up σ 0 0 z) (if_neg c_1))
    refine lv_iconst (v := 0) hx hb dX7_unplan_8 (by decide) ?_
    exact W.iret (v := 0) hx hb hr (fun t ht hW => ⟨congrArg (fun z => Outcome.returned (some (Value.int z))) (by first | rfl | (simp [-Int32.not_lt, -Int32.not_le, okL, okV, okO, okR, okD, isP, shP, F_unplan, t_unplan, tL, tV, tO, tD, tLV, tN, c_1]; done) | (simp_all [-Int32.not_lt, -Int32.not_le, okL, okV, okO, okR, okD, isP, shP, F_unplan, t_unplan, tL, tV, tO, tD, tLV, tN]; done)), by rw [ht]; exact (hM.cg (by first | rfl | (simp [-Int32.not_lt, -Int32.not_le, okL, okV, okO, okR, okD, isP, shP, F_unplan, t_unplan, tL, tV, tO, tD, tLV, tN, c_1, up_id]; done) | (simp_all [-Int32.not_lt, -Int32.not_le, okL, okV, okO, okR, okD, isP, shP, F_unplan, t_unplan, tL, tV, tO, tD, tLV, tN, up_id]; done))).1, by rw [ht]; exact hM.2.1, fun q hq => by rw [ht]; exact hM.2.2.1 q hq⟩) hM.2.2.2 dX7_unplan_9
set_option maxHeartbeats 4000000 in
set_option maxRecDepth 100000 in
theorem k_byLight (la : Launch) (g : EG) (lo : Nat) (ma : Nat → Nat) (hA : MA lo ma) (σ : Sg) (u : Nat → Int64) (place : Int32) (hI : INV σ) : Met la yX7_byLight wsX7_byLight ({ frames := 1, cells := 0, slots := 0, locals := 25 } : Room) (va_Pc [.ref (ma 0), .int place] (fun U => MR g ma σ u U.heap ∧ KK g U)) (QM (.returned (some (.int (if f_byLight σ place = -1 then 0 else f_byLight σ place)))) (fun H1 => MR g ma (up σ 0 0 (t_byLight σ place)) u H1) (mown ma)) 0 0 (fun q => lo ≤ q) := by
  refine Met.ofW (cc := cX7_byLight) (maxL := 5) (ret := (some .int)) (by decide) rfl ?_
  intro p e s m args below meth c s₁ B hml hv
  obtain ⟨rfl, hR0, hK⟩ := hv
  have hx := B.exec
  have hb := B.bytes
  have hr := B.returns
  have hts := atoms_spec (ws := wsX7_byLight) B.pre
  have hown : s.vm.findClass RX7 = some m.cls := findClass_of_methodNamed B.named
  have hlocks := B.notSynchronized
  have hM : MS g lo ma σ u s.heap s.heap [] := MS.start hR0
  have hinX7 : ∀ w ∈ wsX70, w ∈ wsX7_byLight := by decide +kernel
  have lk59 := hts (.fieldLink RX7 59 "DyehouseLedgerModel" "state" "[C") (by decide +kernel)
  have lk84 := hts (.fieldLink RX7 84 "DyehouseLedgerModel" "thrown" "I") (by decide +kernel)
  have lk92 := hts (.fieldLink RX7 92 "DyehouseLedgerModel" "lots" "I") (by decide +kernel)
  have hl := lv_entry ([.ref (ma 0), .int place]) (n := 5) (Nat.le_of_ble_eq_true rfl)
  rw [lg_entry_eq]
  generalize (lg_sl ([.ref (ma 0), .int place]) ++ List.replicate (5 - (lg_sl ([.ref (ma 0), .int place])).length) Slot.unset).toArray = ls at hl ⊢
  have hl : lv_has ls 5 [(0, .ref (ma 0)), (1, .int place)] := hl
  refine lv_iconst (v := 0) hx hb dX7_byLight_0 (by decide) ?_
  refine lv_istore_n (lv' := [(2, .int 0), (0, .ref (ma 0)), (1, .int place)]) hx hb dX7_byLight_1 rfl hl (by decide) rfl (fun ls hl => ?_)
  have lp2 : ∀ (n9 : Nat) (i : Nat), (i ≤ nL σ) → (f_byLight σ place = byF σ place (nL σ - i) i) → nL σ - i < n9 → ∀ (H : Heap) (locs : List Loc), MS g lo ma σ u s.heap H locs → ∀ (ls : Array Slot), lv_has ls 5 [(0, .ref (ma 0)), (1, .int place), (2, .int (nI i))] → W p la e ({ frames := 1, cells := 0, slots := 0, locals := 25 } : Room) s m ([.ref (ma 0), .int place] : List Value).toArray below meth c H locs 0 0 (MQ below (QM (.returned (some (.int (if f_byLight σ place = -1 then 0 else f_byLight σ place)))) (fun H1 => MR g ma (up σ 0 0 (t_byLight σ place)) u H1) (mown ma)) ([.ref (ma 0), .int place] : List Value).toArray s 0 0 (fun q => lo ≤ q)) (F0 m 2 ls []) := by
    intro n9_2
    induction n9_2 with
    | zero => intro i _ _ h9 ; exact absurd h9 (Nat.not_lt_zero _)
    | succ n9_2 ih_2 =>
      intro i hi hT h9 H locs hM ls hl
      refine lv_iload_n hx hb dX7_byLight_2 rfl (lv_at hl 2 rfl) ?_
      refine lv_aload_n hx hb dX7_byLight_3 rfl (lv_at hl 0 rfl) ?_
      refine m_get (v := .int (σ 3 0)) hx hb hts hinX7 hown hK hM 3 (by decide) lk92 rfl dX7_byLight_4 ?_
      refine lv_icmp_ge (tgt := 101) hx hb dX7_byLight_7 (by decide) (fun c_1 => ?_) (fun c_1 => ?_)
      · replace c_1 := Int32.not_lt.mpr c_1
        obtain rfl : i = nL σ := fnd_eq hI hi c_1
        have hV : f_byLight σ place = -1 := by rw [hT, Nat.sub_self]; rfl
        refine lv_aload_n hx hb dX7_byLight_101 rfl (lv_at hl 0 rfl) ?_
        refine lv_iconst (v := 1) hx hb dX7_byLight_102 (by decide) ?_
        refine mc_mu (n := 1) (As := [.int 1]) (rest := []) (v := [.int 0]) ⟨hx, hb, hml, hown, hts⟩ hK hM (k_refuse la g lo ma hA σ u 1 ) gX7_byLight_X7_refuse rfl rfl rfl (by decide +kernel) ⟨Nat.le_of_ble_eq_true rfl, Nat.le_of_ble_eq_true rfl⟩ rfl hl.1 rfl (Nat.le_of_ble_eq_true rfl) dX7_byLight_103 ⟨Nat.zero_le _, Nat.zero_le _⟩ rfl (fun H locs hM => ?_)
        exact W.iret (v := 0) hx hb hr (fun t ht hW => ⟨congrArg (fun z => Outcome.returned (some (Value.int z))) (by first | rfl | (simp [-Int32.not_lt, -Int32.not_le, okL, okV, okO, okR, okD, isP, shP, t_byLight, f_placeN, sumF, tL, tV, tO, tD, tLV, tN, hi, hT, c_1, hV]; done) | (simp_all [-Int32.not_lt, -Int32.not_le, okL, okV, okO, okR, okD, isP, shP, t_byLight, f_placeN, sumF, tL, tV, tO, tD, tLV, tN]; done)), by rw [ht]; exact (hM.cg (by first | rfl | (simp [-Int32.not_lt, -Int32.not_le, okL, okV, okO, okR, okD, isP, shP, t_byLight, f_placeN, sumF, tL, tV, tO, tD, tLV, tN, hi, hT, c_1, hV, up_id]; done) | (simp_all [-Int32.not_lt, -Int32.not_le, okL, okV, okO, okR, okD, isP, shP, t_byLight, f_placeN, sumF, tL, tV, tO, tD, tLV, tN, up_id]; done))).1, by rw [ht]; exact hM.2.1, fun q hq => by rw [ht]; exact hM.2.2.1 q hq⟩) hM.2.2.2 dX7_byLight_106
      · replace c_1 := Int32.not_le.mp c_1
        have hi1 : i < nL σ := fnd_lt hI hi c_1
        have hLb := hI.l.1
        refine lv_aload_n hx hb dX7_byLight_10 rfl (lv_at hl 0 rfl) ?_
        refine m_get (v := .ref (ma 21)) hx hb hts hinX7 hown hK hM 21 (by decide) lk59 rfl dX7_byLight_11 ?_
        refine lv_iload_n hx hb dX7_byLight_14 rfl (lv_at hl 2 rfl) ?_
        refine m_cald (x := (σ 21 i)) hx hb hK hM (i := (nI i)) (vin_mono (vin_nI hi1 (by omega)) hLb) (congrArg (σ 21) (ti_nI (by omega))) dX7_byLight_15 ?_
        refine lv_bipush (v := 119) hx hb dX7_byLight_16 (by decide) ?_
        refine lv_icmp_ne (tgt := 24) hx hb dX7_byLight_18 (by decide) (fun c_2 => ?_) (fun c_2 => ?_)
        · refine lv_iconst (v := 0) hx hb dX7_byLight_24 (by decide) ?_
          refine lv_istore_n (lv' := [(3, .int 0), (0, .ref (ma 0)), (1, .int place), (2, .int (nI i))]) hx hb dX7_byLight_25 rfl hl (by decide) rfl (fun ls hl => ?_)
          refine lv_iconst (v := 0) hx hb dX7_byLight_26 (by decide) ?_
          refine lv_istore (lv' := [(4, .int 0), (3, .int 0), (0, .ref (ma 0)), (1, .int place), (2, .int (nI i))]) hx hb dX7_byLight_27 hl (by decide) rfl (fun ls hl => ?_)
          have lp29 : ∀ (n9 : Nat) (j : Nat), (j ≤ nL σ) → nL σ - j < n9 → ∀ (H : Heap) (locs : List Loc), MS g lo ma σ u s.heap H locs → ∀ (ls : Array Slot), lv_has ls 5 [(0, .ref (ma 0)), (1, .int place), (2, .int (nI i)), (3, .int (f_placeN σ i j)), (4, .int (nI j))] → W p la e ({ frames := 1, cells := 0, slots := 0, locals := 25 } : Room) s m ([.ref (ma 0), .int place] : List Value).toArray below meth c H locs 0 0 (MQ below (QM (.returned (some (.int (if f_byLight σ place = -1 then 0 else f_byLight σ place)))) (fun H1 => MR g ma (up σ 0 0 (t_byLight σ place)) u H1) (mown ma)) ([.ref (ma 0), .int place] : List Value).toArray s 0 0 (fun q => lo ≤ q)) (F0 m 29 ls []) := by
            intro n9_29
            induction n9_29 with
            | zero => intro j _ h9 ; exact absurd h9 (Nat.not_lt_zero _)
            | succ n9_29 ih_29 =>
              intro j hj h9 H locs hM ls hl
              refine lv_iload hx hb dX7_byLight_29 (lv_at hl 4 rfl) ?_
              refine lv_aload_n hx hb dX7_byLight_31 rfl (lv_at hl 0 rfl) ?_
              refine m_get (v := .int (σ 3 0)) hx hb hts hinX7 hown hK hM 3 (by decide) lk92 rfl dX7_byLight_32 ?_
              refine lv_icmp_ge (tgt := 80) hx hb dX7_byLight_35 (by decide) (fun c_3 => ?_) (fun c_3 => ?_)
              · replace c_3 := Int32.not_lt.mpr c_3
                obtain rfl : j = nL σ := fnd_eq hI hj c_3
                refine lv_iload_n hx hb dX7_byLight_80 rfl (lv_at hl 3 rfl) ?_
                refine lv_iload_n hx hb dX7_byLight_81 rfl (lv_at hl 1 rfl) ?_
                refine lv_icmp_eq (tgt := 88) hx hb dX7_byLight_82 (by decide) (fun c_4 => ?_) (fun c_4 => ?_)
                · have hV := hT.trans (byF_e hi1 ⟨by assumption, c_4⟩)
                  have hN := nI_ne1 (i := i) (by omega)
                  refine lv_aload_n hx hb dX7_byLight_88 rfl (lv_at hl 0 rfl) ?_
                  refine lv_iconst (v := 0) hx hb dX7_byLight_89 (by decide) ?_
                  refine m_put hx hb hA hts hinX7 hown hK hM 0 (by decide) lk84 dX7_byLight_90 (fun H locs hM => ?_)
                  refine lv_iload_n hx hb dX7_byLight_93 rfl (lv_at hl 2 rfl) ?_
                  exact W.iret (v := (nI i)) hx hb hr (fun t ht hW => ⟨congrArg (fun z => Outcome.returned (some (Value.int z))) (by first | rfl | (simp [-Int32.not_lt, -Int32.not_le, okL, okV, okO, okR, okD, isP, shP, t_byLight, f_placeN, sumF, tL, tV, tO, tD, tLV, tN, hi, hT, c_1, c_2, hj, c_3, c_4, hV, hN]; done) | (simp_all [-Int32.not_lt, -Int32.not_le, okL, okV, okO, okR, okD, isP, shP, t_byLight, f_placeN, sumF, tL, tV, tO, tD, tLV, tN]; done)), by rw [ht]; exact (hM.cg (by first | rfl | (simp [-Int32.not_lt, -Int32.not_le, okL, okV, okO, okR, okD, isP, shP, t_byLight, f_placeN, sumF, tL, tV, tO, tD, tLV, tN, hi, hT, c_1, c_2, hj, c_3, c_4, hV, hN, up_id]; done) | (simp_all [-Int32.not_lt, -Int32.not_le, okL, okV, okO, okR, okD, isP, shP, t_byLight, f_placeN, sumF, tL, tV, tO, tD, tLV, tN, up_id]; done))).1, by rw [ht]; exact hM.2.1, fun q hq => by rw [ht]; exact hM.2.2.1 q hq⟩) hM.2.2.2 dX7_byLight_94
                · refine lv_goto (tgt := 95) hx hb dX7_byLight_85 (by decide) ?_
                  refine lv_iinc (v := ((nI i) + 1)) (lv' := [(2, .int ((nI i) + 1)), (0, .ref (ma 0)), (1, .int place), (3, .int (f_placeN σ i (nL σ))), (4, .int (nI (nL σ)))]) hx hb dX7_byLight_95 hl (k := 2) rfl rfl (by decide) rfl (fun ls hl => ?_)
                  refine lv_goto (tgt := 2) hx hb dX7_byLight_98 (by decide) ?_
                  have e_5 : ((nI (i + 1)) : Int32) = ((nI i) + 1) := (nI_1 i).symm
                  have hl2 : lv_has ls 5 [(0, .ref (ma 0)), (1, .int place), (2, .int (nI (i + 1)))] := by
                    rw [e_5]
                    exact lv_sub hl [1, 2, 0] rfl
                  exact ih_2 (i + 1) (by omega) (hT.trans (byF_c hi1 (by rintro ⟨q1, q2⟩; first | exact q1 (by assumption) | exact absurd q2 (by assumption)))) (by omega) _ _ hM ls hl2
              · replace c_3 := Int32.not_le.mp c_3
                have hj1 : j < nL σ := fnd_lt hI hj c_3
                refine lv_iload_n hx hb dX7_byLight_38 rfl (lv_at hl 3 rfl) ?_
                refine lv_aload_n hx hb dX7_byLight_39 rfl (lv_at hl 0 rfl) ?_
                refine m_get (v := .ref (ma 21)) hx hb hts hinX7 hown hK hM 21 (by decide) lk59 rfl dX7_byLight_40 ?_
                refine lv_iload hx hb dX7_byLight_43 (lv_at hl 4 rfl) ?_
                refine m_cald (x := (σ 21 j)) hx hb hK hM (i := (nI j)) (vin_mono (vin_nI hj1 (by omega)) hLb) (congrArg (σ 21) (ti_nI (by omega))) dX7_byLight_45 ?_
                refine lv_bipush (v := 119) hx hb dX7_byLight_46 (by decide) ?_
                refine lv_icmp_eq (tgt := 71) hx hb dX7_byLight_48 (by decide) (fun c_6 => ?_) (fun c_6 => ?_)
                · refine lv_iconst (v := 0) hx hb dX7_byLight_71 (by decide) ?_
                  refine lv_iadd hx hb dX7_byLight_72 ?_
                  refine lv_istore_n (lv' := [(3, .int ((f_placeN σ i j) + 0)), (0, .ref (ma 0)), (1, .int place), (2, .int (nI i)), (4, .int (nI j))]) hx hb dX7_byLight_73 rfl hl (by decide) rfl (fun ls hl => ?_)
                  refine lv_iinc (v := ((nI j) + 1)) (lv' := [(4, .int ((nI j) + 1)), (3, .int ((f_placeN σ i j) + 0)), (0, .ref (ma 0)), (1, .int place), (2, .int (nI i))]) hx hb dX7_byLight_74 hl (k := 4) rfl rfl (by decide) rfl (fun ls hl => ?_)
                  refine lv_goto (tgt := 29) hx hb dX7_byLight_77 (by decide) ?_
                  have e_7 : ((f_placeN σ i (j + 1)) : Int32) = ((f_placeN σ i j) + 0) := (by first | rfl | (simp [-Int32.not_lt, -Int32.not_le, okL, okV, okO, okR, okD, isP, shP, t_byLight, f_placeN, sumF, tL, tV, tO, tD, tLV, tN, hi, hT, c_1, c_2, hj, c_3, c_6]; done) | (simp_all [-Int32.not_lt, -Int32.not_le, okL, okV, okO, okR, okD, isP, shP, t_byLight, f_placeN, sumF, tL, tV, tO, tD, tLV, tN]; done))
                  have e_8 : ((nI (j + 1)) : Int32) = ((nI j) + 1) := (nI_1 j).symm
                  have hl2 : lv_has ls 5 [(0, .ref (ma 0)), (1, .int place), (2, .int (nI i)), (3, .int (f_placeN σ i (j + 1))), (4, .int (nI (j + 1)))] := by
                    rw [e_7, e_8]
                    exact lv_sub hl [2, 3, 4, 1, 0] rfl
                  exact ih_29 (j + 1) (by omega) (by omega) _ _ hM ls hl2
                · refine lv_iload hx hb dX7_byLight_51 (lv_at hl 4 rfl) ?_
                  refine lv_iload_n hx hb dX7_byLight_53 rfl (lv_at hl 2 rfl) ?_
                  refine lv_icmp_eq (tgt := 71) hx hb dX7_byLight_54 (by decide) (fun c_9 => ?_) (fun c_9 => ?_)
                  · refine lv_iconst (v := 0) hx hb dX7_byLight_71 (by decide) ?_
                    refine lv_iadd hx hb dX7_byLight_72 ?_
                    refine lv_istore_n (lv' := [(3, .int ((f_placeN σ i j) + 0)), (0, .ref (ma 0)), (1, .int place), (2, .int (nI i)), (4, .int (nI j))]) hx hb dX7_byLight_73 rfl hl (by decide) rfl (fun ls hl => ?_)
                    refine lv_iinc (v := ((nI j) + 1)) (lv' := [(4, .int ((nI j) + 1)), (3, .int ((f_placeN σ i j) + 0)), (0, .ref (ma 0)), (1, .int place), (2, .int (nI i))]) hx hb dX7_byLight_74 hl (k := 4) rfl rfl (by decide) rfl (fun ls hl => ?_)
                    refine lv_goto (tgt := 29) hx hb dX7_byLight_77 (by decide) ?_
                    have e_10 : ((f_placeN σ i (j + 1)) : Int32) = ((f_placeN σ i j) + 0) := (by first | rfl | (simp [-Int32.not_lt, -Int32.not_le, okL, okV, okO, okR, okD, isP, shP, t_byLight, f_placeN, sumF, tL, tV, tO, tD, tLV, tN, hi, hT, c_1, c_2, hj, c_3, c_6, c_9]; done) | (simp_all [-Int32.not_lt, -Int32.not_le, okL, okV, okO, okR, okD, isP, shP, t_byLight, f_placeN, sumF, tL, tV, tO, tD, tLV, tN]; done))
                    have e_11 : ((nI (j + 1)) : Int32) = ((nI j) + 1) := (nI_1 j).symm
                    have hl2 : lv_has ls 5 [(0, .ref (ma 0)), (1, .int place), (2, .int (nI i)), (3, .int (f_placeN σ i (j + 1))), (4, .int (nI (j + 1)))] := by
                      rw [e_10, e_11]
                      exact lv_sub hl [2, 3, 4, 1, 0] rfl
                    exact ih_29 (j + 1) (by omega) (by omega) _ _ hM ls hl2
                  · refine lv_aload_n hx hb dX7_byLight_57 rfl (lv_at hl 0 rfl) ?_
                    refine lv_iload hx hb dX7_byLight_58 (lv_at hl 4 rfl) ?_
                    refine lv_iload_n hx hb dX7_byLight_60 rfl (lv_at hl 2 rfl) ?_
                    refine mc_ro (n := 2) (As := [.int (nI j), .int (nI i)]) (rest := [.int (f_placeN σ i j)]) (v := [.int (if b_ahead σ (nI j) (nI i) = true then 1 else 0)]) ⟨hx, hb, hml, hown, hts⟩ hK hM (k_isAhead la g ma σ u (nI j) (nI i) hI (vin_nI hj1 (by omega)) (vin_nI hi1 (by omega))) gX7_byLight_X7_isAhead rfl rfl rfl (by decide +kernel) ⟨Nat.le_of_ble_eq_true rfl, Nat.le_of_ble_eq_true rfl⟩ rfl hl.1 rfl (Nat.le_of_ble_eq_true rfl) dX7_byLight_61 ⟨Nat.zero_le _, Nat.zero_le _⟩ rfl ?_
                    refine br_if_eq (c9 := b_ahead σ (nI j) (nI i) = true) (tgt := 71) hx hb dX7_byLight_64 (by decide) (fun c_12 => ?_) (fun c_12 => ?_)
                    · refine lv_iconst (v := 0) hx hb dX7_byLight_71 (by decide) ?_
                      refine lv_iadd hx hb dX7_byLight_72 ?_
                      refine lv_istore_n (lv' := [(3, .int ((f_placeN σ i j) + 0)), (0, .ref (ma 0)), (1, .int place), (2, .int (nI i)), (4, .int (nI j))]) hx hb dX7_byLight_73 rfl hl (by decide) rfl (fun ls hl => ?_)
                      refine lv_iinc (v := ((nI j) + 1)) (lv' := [(4, .int ((nI j) + 1)), (3, .int ((f_placeN σ i j) + 0)), (0, .ref (ma 0)), (1, .int place), (2, .int (nI i))]) hx hb dX7_byLight_74 hl (k := 4) rfl rfl (by decide) rfl (fun ls hl => ?_)
                      refine lv_goto (tgt := 29) hx hb dX7_byLight_77 (by decide) ?_
                      have e_13 : ((f_placeN σ i (j + 1)) : Int32) = ((f_placeN σ i j) + 0) := (by first | rfl | (simp [-Int32.not_lt, -Int32.not_le, okL, okV, okO, okR, okD, isP, shP, t_byLight, f_placeN, sumF, tL, tV, tO, tD, tLV, tN, hi, hT, c_1, c_2, hj, c_3, c_6, c_9, c_12]; done) | (simp_all [-Int32.not_lt, -Int32.not_le, okL, okV, okO, okR, okD, isP, shP, t_byLight, f_placeN, sumF, tL, tV, tO, tD, tLV, tN]; done))
                      have e_14 : ((nI (j + 1)) : Int32) = ((nI j) + 1) := (nI_1 j).symm
                      have hl2 : lv_has ls 5 [(0, .ref (ma 0)), (1, .int place), (2, .int (nI i)), (3, .int (f_placeN σ i (j + 1))), (4, .int (nI (j + 1)))] := by
                        rw [e_13, e_14]
                        exact lv_sub hl [2, 3, 4, 1, 0] rfl
                      exact ih_29 (j + 1) (by omega) (by omega) _ _ hM ls hl2
                    · refine lv_iconst (v := 1) hx hb dX7_byLight_67 (by decide) ?_
                      refine lv_goto (tgt := 72) hx hb dX7_byLight_68 (by decide) ?_
                      refine lv_iadd hx hb dX7_byLight_72 ?_
                      refine lv_istore_n (lv' := [(3, .int ((f_placeN σ i j) + 1)), (0, .ref (ma 0)), (1, .int place), (2, .int (nI i)), (4, .int (nI j))]) hx hb dX7_byLight_73 rfl hl (by decide) rfl (fun ls hl => ?_)
                      refine lv_iinc (v := ((nI j) + 1)) (lv' := [(4, .int ((nI j) + 1)), (3, .int ((f_placeN σ i j) + 1)), (0, .ref (ma 0)), (1, .int place), (2, .int (nI i))]) hx hb dX7_byLight_74 hl (k := 4) rfl rfl (by decide) rfl (fun ls hl => ?_)
                      refine lv_goto (tgt := 29) hx hb dX7_byLight_77 (by decide) ?_
                      have e_15 : ((f_placeN σ i (j + 1)) : Int32) = ((f_placeN σ i j) + 1) := (by first | rfl | (simp [-Int32.not_lt, -Int32.not_le, okL, okV, okO, okR, okD, isP, shP, t_byLight, f_placeN, sumF, tL, tV, tO, tD, tLV, tN, hi, hT, c_1, c_2, hj, c_3, c_6, c_9, c_12]; done) | (simp_all [-Int32.not_lt, -Int32.not_le, okL, okV, okO, okR, okD, isP, shP, t_byLight, f_placeN, sumF, tL, tV, tO, tD, tLV, tN]; done))
                      have e_16 : ((nI (j + 1)) : Int32) = ((nI j) + 1) := (nI_1 j).symm
                      have hl2 : lv_has ls 5 [(0, .ref (ma 0)), (1, .int place), (2, .int (nI i)), (3, .int (f_placeN σ i (j + 1))), (4, .int (nI (j + 1)))] := by
                        rw [e_15, e_16]
                        exact lv_sub hl [2, 3, 4, 1, 0] rfl
                      exact ih_29 (j + 1) (by omega) (by omega) _ _ hM ls hl2
          have e_17 : ((f_placeN σ i (0)) : Int32) = 0 := (by first | rfl | (simp [-Int32.not_lt, -Int32.not_le, okL, okV, okO, okR, okD, isP, shP, t_byLight, f_placeN, sumF, tL, tV, tO, tD, tLV, tN, hi, hT, c_1, c_2]; done) | (simp_all [-Int32.not_lt, -Int32.not_le, okL, okV, okO, okR, okD, isP, shP, t_byLight, f_placeN, sumF, tL, tV, tO, tD, tLV, tN]; done))
          have e_18 : ((nI (0)) : Int32) = 0 := (by first | rfl | (simp [-Int32.not_lt, -Int32.not_le, okL, okV, okO, okR, okD, isP, shP, t_byLight, f_placeN, sumF, tL, tV, tO, tD, tLV, tN, hi, hT, c_1, c_2]; done) | (simp_all [-Int32.not_lt, -Int32.not_le, okL, okV, okO, okR, okD, isP, shP, t_byLight, f_placeN, sumF, tL, tV, tO, tD, tLV, tN]; done))
          have hl2 : lv_has ls 5 [(0, .ref (ma 0)), (1, .int place), (2, .int (nI i)), (3, .int (f_placeN σ i (0))), (4, .int (nI (0)))] := by
            rw [e_17, e_18]
            exact lv_sub hl [2, 3, 4, 1, 0] rfl
          exact lp29 (nL σ - 0 + 1) (0) (Nat.zero_le _) (Nat.lt_succ_self _) _ _ hM ls hl2
        · refine lv_goto (tgt := 95) hx hb dX7_byLight_21 (by decide) ?_
          refine lv_iinc (v := ((nI i) + 1)) (lv' := [(2, .int ((nI i) + 1)), (0, .ref (ma 0)), (1, .int place)]) hx hb dX7_byLight_95 hl (k := 2) rfl rfl (by decide) rfl (fun ls hl => ?_)
          refine lv_goto (tgt := 2) hx hb dX7_byLight_98 (by decide) ?_
          have e_19 : ((nI (i + 1)) : Int32) = ((nI i) + 1) := (nI_1 i).symm
          have hl2 : lv_has ls 5 [(0, .ref (ma 0)), (1, .int place), (2, .int (nI (i + 1)))] := by
            rw [e_19]
            exact lv_sub hl [1, 2, 0] rfl
          exact ih_2 (i + 1) (by omega) (hT.trans (byF_c hi1 (by rintro ⟨q1, q2⟩; first | exact q1 (by assumption) | exact absurd q2 (by assumption)))) (by omega) _ _ hM ls hl2
  have e_20 : ((nI (0)) : Int32) = 0 := (by first | rfl | (simp [-Int32.not_lt, -Int32.not_le, okL, okV, okO, okR, okD, isP, shP, t_byLight, f_placeN, sumF, tL, tV, tO, tD, tLV, tN]; done) | (simp_all [-Int32.not_lt, -Int32.not_le, okL, okV, okO, okR, okD, isP, shP, t_byLight, f_placeN, sumF, tL, tV, tO, tD, tLV, tN]; done))
  have hl2 : lv_has ls 5 [(0, .ref (ma 0)), (1, .int place), (2, .int (nI (0)))] := by
    rw [e_20]
    exact lv_sub hl [1, 2, 0] rfl
  exact lp2 (nL σ - 0 + 1) (0) (Nat.zero_le _) rfl (Nat.lt_succ_self _) _ _ hM ls hl2
set_option maxHeartbeats 4000000 in
set_option maxRecDepth 100000 in
theorem k_spread (la : Launch) (g : EG) (lo : Nat) (ma : Nat → Nat) (hA : MA lo ma) (σ : Sg) (u : Nat → Int64) (o : Int32) (hI : INV σ) : Met la yX7_spread wsX7_spread ({ frames := 2, cells := 0, slots := 0, locals := 43 } : Room) (va_Pc [.ref (ma 0), .int o] (fun U => MR g ma σ u U.heap ∧ KK g U)) (QM (.returned (some (.int (if okO σ o then spO σ o (nL σ) else 0)))) (fun H1 => MR g ma (up σ 0 0 (tO σ o)) u H1) (mown ma)) 0 0 (fun q => lo ≤ q) := by
  refine Met.ofW (cc := cX7_spread) (maxL := 5) (ret := (some .int)) (by decide) rfl ?_
  intro p e s m args below meth c s₁ B hml hv
  obtain ⟨rfl, hR0, hK⟩ := hv
  have hx := B.exec
  have hb := B.bytes
  have hr := B.returns
  have hts := atoms_spec (ws := wsX7_spread) B.pre
  have hown : s.vm.findClass RX7 = some m.cls := findClass_of_methodNamed B.named
  have hlocks := B.notSynchronized
  have hM : MS g lo ma σ u s.heap s.heap [] := MS.start hR0
  have hinX7 : ∀ w ∈ wsX70, w ∈ wsX7_spread := by decide +kernel
  have lk38 := hts (.fieldLink RX7 38 "DyehouseLedgerModel" "order" "[I") (by decide +kernel)
  have lk59 := hts (.fieldLink RX7 59 "DyehouseLedgerModel" "state" "[C") (by decide +kernel)
  have lk92 := hts (.fieldLink RX7 92 "DyehouseLedgerModel" "lots" "I") (by decide +kernel)
  have hl := lv_entry ([.ref (ma 0), .int o]) (n := 5) (Nat.le_of_ble_eq_true rfl)
  rw [lg_entry_eq]
  generalize (lg_sl ([.ref (ma 0), .int o]) ++ List.replicate (5 - (lg_sl ([.ref (ma 0), .int o])).length) Slot.unset).toArray = ls at hl ⊢
  have hl : lv_has ls 5 [(0, .ref (ma 0)), (1, .int o)] := hl
  refine lv_aload_n hx hb dX7_spread_0 rfl (lv_at hl 0 rfl) ?_
  refine lv_iload_n hx hb dX7_spread_1 rfl (lv_at hl 1 rfl) ?_
  refine mc_mu (n := 1) (As := [.int o]) (rest := []) (v := [.int (if ¬ okO σ o then 1 else 0)]) ⟨hx, hb, hml, hown, hts⟩ hK hM (k_noOrder la g lo ma hA σ u o ) gX7_spread_X7_noOrder rfl rfl rfl (by decide +kernel) ⟨Nat.le_of_ble_eq_true rfl, Nat.le_of_ble_eq_true rfl⟩ rfl hl.1 rfl (Nat.le_of_ble_eq_true rfl) dX7_spread_2 ⟨Nat.zero_le _, Nat.zero_le _⟩ rfl (fun H locs hM => ?_)
  refine br_if_eq (c9 := ¬ okO σ o) (tgt := 10) hx hb dX7_spread_5 (by decide) (fun c_1 => ?_) (fun c_1 => ?_)
  · replace c_1 := Decidable.not_not.mp c_1
    replace hM := hM.cg (congrArg (fun z => up σ 0 0 z) (if_pos c_1))
    have ko := (okO_in hI o).mp c_1
    refine lv_iconst (v := 0) hx hb dX7_spread_10 (by decide) ?_
    refine lv_istore_n (lv' := [(2, .int 0), (0, .ref (ma 0)), (1, .int o)]) hx hb dX7_spread_11 rfl hl (by decide) rfl (fun ls hl => ?_)
    refine lv_iconst (v := 0) hx hb dX7_spread_12 (by decide) ?_
    refine lv_istore_n (lv' := [(3, .int 0), (2, .int 0), (0, .ref (ma 0)), (1, .int o)]) hx hb dX7_spread_13 rfl hl (by decide) rfl (fun ls hl => ?_)
    have lp14 : ∀ (n9 : Nat) (i : Nat), (i ≤ nL σ) → nL σ - i < n9 → ∀ (H : Heap) (locs : List Loc), MS g lo ma (up σ 0 0 0) u s.heap H locs → ∀ (ls : Array Slot), lv_has ls 5 [(0, .ref (ma 0)), (1, .int o), (2, .int (spO σ o i)), (3, .int (nI i))] → W p la e ({ frames := 2, cells := 0, slots := 0, locals := 43 } : Room) s m ([.ref (ma 0), .int o] : List Value).toArray below meth c H locs 0 0 (MQ below (QM (.returned (some (.int (if okO σ o then spO σ o (nL σ) else 0)))) (fun H1 => MR g ma (up σ 0 0 (tO σ o)) u H1) (mown ma)) ([.ref (ma 0), .int o] : List Value).toArray s 0 0 (fun q => lo ≤ q)) (F0 m 14 ls []) := by
      intro n9_14
      induction n9_14 with
      | zero => intro i _ h9 ; exact absurd h9 (Nat.not_lt_zero _)
      | succ n9_14 ih_14 =>
        intro i hi h9 H locs hM ls hl
        refine lv_iload_n hx hb dX7_spread_14 rfl (lv_at hl 3 rfl) ?_
        refine lv_aload_n hx hb dX7_spread_15 rfl (lv_at hl 0 rfl) ?_
        refine m_get (v := .int (σ 3 0)) hx hb hts hinX7 hown hK hM 3 (by decide) lk92 rfl dX7_spread_16 ?_
        refine lv_icmp_ge (tgt := 109) hx hb dX7_spread_19 (by decide) (fun c_2 => ?_) (fun c_2 => ?_)
        · replace c_2 := Int32.not_lt.mpr c_2
          obtain rfl : i = nL σ := fnd_eq hI hi c_2
          refine lv_iload_n hx hb dX7_spread_109 rfl (lv_at hl 2 rfl) ?_
          exact W.iret (v := (spO σ o (nL σ))) hx hb hr (fun t ht hW => ⟨congrArg (fun z => Outcome.returned (some (Value.int z))) (by first | rfl | (simp [-Int32.not_lt, -Int32.not_le, okL, okV, okO, okR, okD, isP, shP, spO, spI, tL, tV, tO, tD, tLV, tN, c_1, hi, c_2]; done) | (simp_all [-Int32.not_lt, -Int32.not_le, okL, okV, okO, okR, okD, isP, shP, spO, spI, tL, tV, tO, tD, tLV, tN]; done)), by rw [ht]; exact (hM.cg (by first | rfl | (simp [-Int32.not_lt, -Int32.not_le, okL, okV, okO, okR, okD, isP, shP, spO, spI, tL, tV, tO, tD, tLV, tN, c_1, hi, c_2, up_id]; done) | (simp_all [-Int32.not_lt, -Int32.not_le, okL, okV, okO, okR, okD, isP, shP, spO, spI, tL, tV, tO, tD, tLV, tN, up_id]; done))).1, by rw [ht]; exact hM.2.1, fun q hq => by rw [ht]; exact hM.2.2.1 q hq⟩) hM.2.2.2 dX7_spread_110
        · replace c_2 := Int32.not_le.mp c_2
          have hi1 : i < nL σ := fnd_lt hI hi c_2
          have hLb := hI.l.1
          refine lv_iconst (v := 0) hx hb dX7_spread_22 (by decide) ?_
          refine lv_istore (lv' := [(4, .int 0), (0, .ref (ma 0)), (1, .int o), (2, .int (spO σ o i)), (3, .int (nI i))]) hx hb dX7_spread_23 hl (by decide) rfl (fun ls hl => ?_)
          have lp25 : ∀ (n9 : Nat) (j : Nat), (j ≤ i) → i - j < n9 → ∀ (H : Heap) (locs : List Loc), MS g lo ma (up σ 0 0 0) u s.heap H locs → ∀ (ls : Array Slot), lv_has ls 5 [(0, .ref (ma 0)), (1, .int o), (2, .int (spI σ o i (spO σ o i) j)), (3, .int (nI i)), (4, .int (nI j))] → W p la e ({ frames := 2, cells := 0, slots := 0, locals := 43 } : Room) s m ([.ref (ma 0), .int o] : List Value).toArray below meth c H locs 0 0 (MQ below (QM (.returned (some (.int (if okO σ o then spO σ o (nL σ) else 0)))) (fun H1 => MR g ma (up σ 0 0 (tO σ o)) u H1) (mown ma)) ([.ref (ma 0), .int o] : List Value).toArray s 0 0 (fun q => lo ≤ q)) (F0 m 25 ls []) := by
            intro n9_25
            induction n9_25 with
            | zero => intro j _ h9 ; exact absurd h9 (Nat.not_lt_zero _)
            | succ n9_25 ih_25 =>
              intro j hj h9 H locs hM ls hl
              refine lv_iload hx hb dX7_spread_25 (lv_at hl 4 rfl) ?_
              refine lv_iload_n hx hb dX7_spread_27 rfl (lv_at hl 3 rfl) ?_
              refine lv_icmp_ge (tgt := 103) hx hb dX7_spread_28 (by decide) (fun c_3 => ?_) (fun c_3 => ?_)
              · replace c_3 := Int32.not_lt.mpr c_3
                obtain rfl : i = j := by
                  have q := mt (nI_ltI (a := j) (b := i) (by omega) (by omega)).mpr c_3
                  omega
                refine lv_iinc (v := ((nI i) + 1)) (lv' := [(3, .int ((nI i) + 1)), (0, .ref (ma 0)), (1, .int o), (2, .int (spI σ o i (spO σ o i) i)), (4, .int (nI i))]) hx hb dX7_spread_103 hl (k := 3) rfl rfl (by decide) rfl (fun ls hl => ?_)
                refine lv_goto (tgt := 14) hx hb dX7_spread_106 (by decide) ?_
                have e_4 : ((spO σ o (i + 1)) : Int32) = (spI σ o i (spO σ o i) i) := (by first | rfl | (simp [-Int32.not_lt, -Int32.not_le, okL, okV, okO, okR, okD, isP, shP, spO, spI, tL, tV, tO, tD, tLV, tN, c_1, hi, c_2, hj, c_3]; done) | (simp_all [-Int32.not_lt, -Int32.not_le, okL, okV, okO, okR, okD, isP, shP, spO, spI, tL, tV, tO, tD, tLV, tN]; done))
                have e_5 : ((nI (i + 1)) : Int32) = ((nI i) + 1) := (nI_1 i).symm
                have hl2 : lv_has ls 5 [(0, .ref (ma 0)), (1, .int o), (2, .int (spO σ o (i + 1))), (3, .int (nI (i + 1)))] := by
                  rw [e_4, e_5]
                  exact lv_sub hl [1, 2, 3, 0] rfl
                exact ih_14 (i + 1) (by omega) (by omega) _ _ hM ls hl2
              · replace c_3 := Int32.not_le.mp c_3
                have hj2 : j < i := (nI_ltI (a := j) (b := i) (by omega) (by omega)).mp c_3
                have hj1 : j < nL σ := Nat.lt_trans hj2 hi1
                refine lv_aload_n hx hb dX7_spread_31 rfl (lv_at hl 0 rfl) ?_
                refine m_get (v := .ref (ma 14)) hx hb hts hinX7 hown hK hM 14 (by decide) lk38 rfl dX7_spread_32 ?_
                refine lv_iload_n hx hb dX7_spread_35 rfl (lv_at hl 3 rfl) ?_
                refine m_iald (x := (σ 14 i)) hx hb hK hM 14 (by decide) rfl (i := (nI i)) (n := 24) (vin_mono (vin_nI hi1 (by omega)) hLb) (congrArg ((up σ 0 0 0) 14) (ti_nI (by omega))) dX7_spread_36 ?_
                refine lv_iload_n hx hb dX7_spread_37 rfl (lv_at hl 1 rfl) ?_
                refine lv_icmp_ne (tgt := 97) hx hb dX7_spread_38 (by decide) (fun c_6 => ?_) (fun c_6 => ?_)
                · refine lv_iinc (v := ((nI j) + 1)) (lv' := [(4, .int ((nI j) + 1)), (0, .ref (ma 0)), (1, .int o), (2, .int (spI σ o i (spO σ o i) j)), (3, .int (nI i))]) hx hb dX7_spread_97 hl (k := 4) rfl rfl (by decide) rfl (fun ls hl => ?_)
                  refine lv_goto (tgt := 25) hx hb dX7_spread_100 (by decide) ?_
                  have e_7 : ((spI σ o i (spO σ o i) (j + 1)) : Int32) = (spI σ o i (spO σ o i) j) := (by first | rfl | (simp [-Int32.not_lt, -Int32.not_le, okL, okV, okO, okR, okD, isP, shP, spO, spI, tL, tV, tO, tD, tLV, tN, c_1, hi, c_2, hj, c_3, c_6]; done) | (simp_all [-Int32.not_lt, -Int32.not_le, okL, okV, okO, okR, okD, isP, shP, spO, spI, tL, tV, tO, tD, tLV, tN]; done))
                  have e_8 : ((nI (j + 1)) : Int32) = ((nI j) + 1) := (nI_1 j).symm
                  have hl2 : lv_has ls 5 [(0, .ref (ma 0)), (1, .int o), (2, .int (spI σ o i (spO σ o i) (j + 1))), (3, .int (nI i)), (4, .int (nI (j + 1)))] := by
                    rw [e_7, e_8]
                    exact lv_sub hl [1, 2, 3, 4, 0] rfl
                  exact ih_25 (j + 1) (by omega) (by omega) _ _ hM ls hl2
                · refine lv_aload_n hx hb dX7_spread_41 rfl (lv_at hl 0 rfl) ?_
                  refine m_get (v := .ref (ma 14)) hx hb hts hinX7 hown hK hM 14 (by decide) lk38 rfl dX7_spread_42 ?_
                  refine lv_iload hx hb dX7_spread_45 (lv_at hl 4 rfl) ?_
                  refine m_iald (x := (σ 14 j)) hx hb hK hM 14 (by decide) rfl (i := (nI j)) (n := 24) (vin_mono (vin_nI hj1 (by omega)) hLb) (congrArg ((up σ 0 0 0) 14) (ti_nI (by omega))) dX7_spread_47 ?_
                  refine lv_iload_n hx hb dX7_spread_48 rfl (lv_at hl 1 rfl) ?_
                  refine lv_icmp_ne (tgt := 97) hx hb dX7_spread_49 (by decide) (fun c_9 => ?_) (fun c_9 => ?_)
                  · refine lv_iinc (v := ((nI j) + 1)) (lv' := [(4, .int ((nI j) + 1)), (0, .ref (ma 0)), (1, .int o), (2, .int (spI σ o i (spO σ o i) j)), (3, .int (nI i))]) hx hb dX7_spread_97 hl (k := 4) rfl rfl (by decide) rfl (fun ls hl => ?_)
                    refine lv_goto (tgt := 25) hx hb dX7_spread_100 (by decide) ?_
                    have e_10 : ((spI σ o i (spO σ o i) (j + 1)) : Int32) = (spI σ o i (spO σ o i) j) := (by first | rfl | (simp [-Int32.not_lt, -Int32.not_le, okL, okV, okO, okR, okD, isP, shP, spO, spI, tL, tV, tO, tD, tLV, tN, c_1, hi, c_2, hj, c_3, c_6, c_9]; done) | (simp_all [-Int32.not_lt, -Int32.not_le, okL, okV, okO, okR, okD, isP, shP, spO, spI, tL, tV, tO, tD, tLV, tN]; done))
                    have e_11 : ((nI (j + 1)) : Int32) = ((nI j) + 1) := (nI_1 j).symm
                    have hl2 : lv_has ls 5 [(0, .ref (ma 0)), (1, .int o), (2, .int (spI σ o i (spO σ o i) (j + 1))), (3, .int (nI i)), (4, .int (nI (j + 1)))] := by
                      rw [e_10, e_11]
                      exact lv_sub hl [1, 2, 3, 4, 0] rfl
                    exact ih_25 (j + 1) (by omega) (by omega) _ _ hM ls hl2
                  · refine lv_aload_n hx hb dX7_spread_52 rfl (lv_at hl 0 rfl) ?_
                    refine m_get (v := .ref (ma 21)) hx hb hts hinX7 hown hK hM 21 (by decide) lk59 rfl dX7_spread_53 ?_
                    refine lv_iload_n hx hb dX7_spread_56 rfl (lv_at hl 3 rfl) ?_
                    refine m_cald (x := (σ 21 i)) hx hb hK hM (i := (nI i)) (vin_mono (vin_nI hi1 (by omega)) hLb) (congrArg ((up σ 0 0 0) 21) (ti_nI (by omega))) dX7_spread_57 ?_
                    refine lv_bipush (v := 112) hx hb dX7_spread_58 (by decide) ?_
                    refine lv_icmp_ne (tgt := 97) hx hb dX7_spread_60 (by decide) (fun c_12 => ?_) (fun c_12 => ?_)
                    · refine lv_iinc (v := ((nI j) + 1)) (lv' := [(4, .int ((nI j) + 1)), (0, .ref (ma 0)), (1, .int o), (2, .int (spI σ o i (spO σ o i) j)), (3, .int (nI i))]) hx hb dX7_spread_97 hl (k := 4) rfl rfl (by decide) rfl (fun ls hl => ?_)
                      refine lv_goto (tgt := 25) hx hb dX7_spread_100 (by decide) ?_
                      have e_13 : ((spI σ o i (spO σ o i) (j + 1)) : Int32) = (spI σ o i (spO σ o i) j) := (by first | rfl | (simp [-Int32.not_lt, -Int32.not_le, okL, okV, okO, okR, okD, isP, shP, spO, spI, tL, tV, tO, tD, tLV, tN, c_1, hi, c_2, hj, c_3, c_6, c_9, c_12]; done) | (simp_all [-Int32.not_lt, -Int32.not_le, okL, okV, okO, okR, okD, isP, shP, spO, spI, tL, tV, tO, tD, tLV, tN]; done))
                      have e_14 : ((nI (j + 1)) : Int32) = ((nI j) + 1) := (nI_1 j).symm
                      have hl2 : lv_has ls 5 [(0, .ref (ma 0)), (1, .int o), (2, .int (spI σ o i (spO σ o i) (j + 1))), (3, .int (nI i)), (4, .int (nI (j + 1)))] := by
                        rw [e_13, e_14]
                        exact lv_sub hl [1, 2, 3, 4, 0] rfl
                      exact ih_25 (j + 1) (by omega) (by omega) _ _ hM ls hl2
                    · refine lv_aload_n hx hb dX7_spread_63 rfl (lv_at hl 0 rfl) ?_
                      refine m_get (v := .ref (ma 21)) hx hb hts hinX7 hown hK hM 21 (by decide) lk59 rfl dX7_spread_64 ?_
                      refine lv_iload hx hb dX7_spread_67 (lv_at hl 4 rfl) ?_
                      refine m_cald (x := (σ 21 j)) hx hb hK hM (i := (nI j)) (vin_mono (vin_nI hj1 (by omega)) hLb) (congrArg ((up σ 0 0 0) 21) (ti_nI (by omega))) dX7_spread_69 ?_
                      refine lv_bipush (v := 112) hx hb dX7_spread_70 (by decide) ?_
                      refine lv_icmp_eq (tgt := 78) hx hb dX7_spread_72 (by decide) (fun c_15 => ?_) (fun c_15 => ?_)
                      · refine lv_aload_n hx hb dX7_spread_78 rfl (lv_at hl 0 rfl) ?_
                        refine lv_iload_n hx hb dX7_spread_79 rfl (lv_at hl 3 rfl) ?_
                        refine lv_iload hx hb dX7_spread_80 (lv_at hl 4 rfl) ?_
                        refine mc_ro (n := 2) (As := [.int (nI i), .int (nI j)]) (rest := []) (v := [.int (f_apart σ (nI i) (nI j))]) ⟨hx, hb, hml, hown, hts⟩ hK hM (k_apart la g ma (up σ 0 0 0) u (nI i) (nI j) (hI.up0 _) (show vp_in (nI i) (nL σ) from vin_nI hi1 (by omega)) (show vp_in (nI j) (nL σ) from vin_nI (Nat.lt_trans hj2 hi1) (by omega))) gX7_spread_X7_apart rfl rfl rfl (by decide +kernel) ⟨Nat.le_of_ble_eq_true rfl, Nat.le_of_ble_eq_true rfl⟩ rfl hl.1 rfl (Nat.le_of_ble_eq_true rfl) dX7_spread_82 ⟨Nat.zero_le _, Nat.zero_le _⟩ rfl ?_
                        refine lv_iload_n hx hb dX7_spread_85 rfl (lv_at hl 2 rfl) ?_
                        refine lv_icmp_le (tgt := 97) hx hb dX7_spread_86 (by decide) (fun c_16 => ?_) (fun c_16 => ?_)
                        · replace c_16 := Int32.not_lt.mpr c_16
                          refine lv_iinc (v := ((nI j) + 1)) (lv' := [(4, .int ((nI j) + 1)), (0, .ref (ma 0)), (1, .int o), (2, .int (spI σ o i (spO σ o i) j)), (3, .int (nI i))]) hx hb dX7_spread_97 hl (k := 4) rfl rfl (by decide) rfl (fun ls hl => ?_)
                          refine lv_goto (tgt := 25) hx hb dX7_spread_100 (by decide) ?_
                          have e_17 : ((spI σ o i (spO σ o i) (j + 1)) : Int32) = (spI σ o i (spO σ o i) j) := (by first | rfl | (simp [-Int32.not_lt, -Int32.not_le, okL, okV, okO, okR, okD, isP, shP, spO, spI, tL, tV, tO, tD, tLV, tN, c_1, hi, c_2, hj, c_3, c_6, c_9, c_12, c_15, c_16]; done) | (simp_all [-Int32.not_lt, -Int32.not_le, okL, okV, okO, okR, okD, isP, shP, spO, spI, tL, tV, tO, tD, tLV, tN]; done))
                          have e_18 : ((nI (j + 1)) : Int32) = ((nI j) + 1) := (nI_1 j).symm
                          have hl2 : lv_has ls 5 [(0, .ref (ma 0)), (1, .int o), (2, .int (spI σ o i (spO σ o i) (j + 1))), (3, .int (nI i)), (4, .int (nI (j + 1)))] := by
                            rw [e_17, e_18]
                            exact lv_sub hl [1, 2, 3, 4, 0] rfl
                          exact ih_25 (j + 1) (by omega) (by omega) _ _ hM ls hl2
                        · replace c_16 := Int32.not_le.mp c_16
                          refine lv_aload_n hx hb dX7_spread_89 rfl (lv_at hl 0 rfl) ?_
                          refine lv_iload_n hx hb dX7_spread_90 rfl (lv_at hl 3 rfl) ?_
                          refine lv_iload hx hb dX7_spread_91 (lv_at hl 4 rfl) ?_
                          refine mc_ro (n := 2) (As := [.int (nI i), .int (nI j)]) (rest := []) (v := [.int (f_apart σ (nI i) (nI j))]) ⟨hx, hb, hml, hown, hts⟩ hK hM (k_apart la g ma (up σ 0 0 0) u (nI i) (nI j) (hI.up0 _) (show vp_in (nI i) (nL σ) from vin_nI hi1 (by omega)) (show vp_in (nI j) (nL σ) from vin_nI (Nat.lt_trans hj2 hi1) (by omega))) gX7_spread_X7_apart rfl rfl rfl (by decide +kernel) ⟨Nat.le_of_ble_eq_true rfl, Nat.le_of_ble_eq_true rfl⟩ rfl hl.1 rfl (Nat.le_of_ble_eq_true rfl) dX7_spread_93 ⟨Nat.zero_le _, Nat.zero_le _⟩ rfl ?_
                          refine lv_istore_n (lv' := [(2, .int (f_apart σ (nI i) (nI j))), (0, .ref (ma 0)), (1, .int o), (3, .int (nI i)), (4, .int (nI j))]) hx hb dX7_spread_96 rfl hl (by decide) rfl (fun ls hl => ?_)
                          refine lv_iinc (v := ((nI j) + 1)) (lv' := [(4, .int ((nI j) + 1)), (2, .int (f_apart σ (nI i) (nI j))), (0, .ref (ma 0)), (1, .int o), (3, .int (nI i))]) hx hb dX7_spread_97 hl (k := 4) rfl rfl (by decide) rfl (fun ls hl => ?_)
                          refine lv_goto (tgt := 25) hx hb dX7_spread_100 (by decide) ?_
                          have e_19 : ((spI σ o i (spO σ o i) (j + 1)) : Int32) = (f_apart σ (nI i) (nI j)) := (by first | rfl | (simp [-Int32.not_lt, -Int32.not_le, okL, okV, okO, okR, okD, isP, shP, spO, spI, tL, tV, tO, tD, tLV, tN, c_1, hi, c_2, hj, c_3, c_6, c_9, c_12, c_15, c_16]; done) | (simp_all [-Int32.not_lt, -Int32.not_le, okL, okV, okO, okR, okD, isP, shP, spO, spI, tL, tV, tO, tD, tLV, tN]; done))
                          have e_20 : ((nI (j + 1)) : Int32) = ((nI j) + 1) := (nI_1 j).symm
                          have hl2 : lv_has ls 5 [(0, .ref (ma 0)), (1, .int o), (2, .int (spI σ o i (spO σ o i) (j + 1))), (3, .int (nI i)), (4, .int (nI (j + 1)))] := by
                            rw [e_19, e_20]
                            exact lv_sub hl [2, 3, 1, 4, 0] rfl
                          exact ih_25 (j + 1) (by omega) (by omega) _ _ hM ls hl2
                      · refine lv_goto (tgt := 97) hx hb dX7_spread_75 (by decide) ?_
                        refine lv_iinc (v := ((nI j) + 1)) (lv' := [(4, .int ((nI j) + 1)), (0, .ref (ma 0)), (1, .int o), (2, .int (spI σ o i (spO σ o i) j)), (3, .int (nI i))]) hx hb dX7_spread_97 hl (k := 4) rfl rfl (by decide) rfl (fun ls hl => ?_)
                        refine lv_goto (tgt := 25) hx hb dX7_spread_100 (by decide) ?_
                        have e_21 : ((spI σ o i (spO σ o i) (j + 1)) : Int32) = (spI σ o i (spO σ o i) j) := (by first | rfl | (simp [-Int32.not_lt, -Int32.not_le, okL, okV, okO, okR, okD, isP, shP, spO, spI, tL, tV, tO, tD, tLV, tN, c_1, hi, c_2, hj, c_3, c_6, c_9, c_12, c_15]; done) | (simp_all [-Int32.not_lt, -Int32.not_le, okL, okV, okO, okR, okD, isP, shP, spO, spI, tL, tV, tO, tD, tLV, tN]; done))
                        have e_22 : ((nI (j + 1)) : Int32) = ((nI j) + 1) := (nI_1 j).symm
                        have hl2 : lv_has ls 5 [(0, .ref (ma 0)), (1, .int o), (2, .int (spI σ o i (spO σ o i) (j + 1))), (3, .int (nI i)), (4, .int (nI (j + 1)))] := by
                          rw [e_21, e_22]
                          exact lv_sub hl [1, 2, 3, 4, 0] rfl
                        exact ih_25 (j + 1) (by omega) (by omega) _ _ hM ls hl2
          have e_23 : ((spI σ o i (spO σ o i) (0)) : Int32) = (spO σ o i) := (by first | rfl | (simp [-Int32.not_lt, -Int32.not_le, okL, okV, okO, okR, okD, isP, shP, spO, spI, tL, tV, tO, tD, tLV, tN, c_1, hi, c_2]; done) | (simp_all [-Int32.not_lt, -Int32.not_le, okL, okV, okO, okR, okD, isP, shP, spO, spI, tL, tV, tO, tD, tLV, tN]; done))
          have e_24 : ((nI (0)) : Int32) = 0 := (by first | rfl | (simp [-Int32.not_lt, -Int32.not_le, okL, okV, okO, okR, okD, isP, shP, spO, spI, tL, tV, tO, tD, tLV, tN, c_1, hi, c_2]; done) | (simp_all [-Int32.not_lt, -Int32.not_le, okL, okV, okO, okR, okD, isP, shP, spO, spI, tL, tV, tO, tD, tLV, tN]; done))
          have hl2 : lv_has ls 5 [(0, .ref (ma 0)), (1, .int o), (2, .int (spI σ o i (spO σ o i) (0))), (3, .int (nI i)), (4, .int (nI (0)))] := by
            rw [e_23, e_24]
            exact lv_sub hl [1, 2, 3, 4, 0] rfl
          exact lp25 (i - 0 + 1) (0) (Nat.zero_le _) (Nat.lt_succ_self _) _ _ hM ls hl2
    have e_25 : ((spO σ o (0)) : Int32) = 0 := (by first | rfl | (simp [-Int32.not_lt, -Int32.not_le, okL, okV, okO, okR, okD, isP, shP, spO, spI, tL, tV, tO, tD, tLV, tN, c_1]; done) | (simp_all [-Int32.not_lt, -Int32.not_le, okL, okV, okO, okR, okD, isP, shP, spO, spI, tL, tV, tO, tD, tLV, tN]; done))
    have e_26 : ((nI (0)) : Int32) = 0 := (by first | rfl | (simp [-Int32.not_lt, -Int32.not_le, okL, okV, okO, okR, okD, isP, shP, spO, spI, tL, tV, tO, tD, tLV, tN, c_1]; done) | (simp_all [-Int32.not_lt, -Int32.not_le, okL, okV, okO, okR, okD, isP, shP, spO, spI, tL, tV, tO, tD, tLV, tN]; done))
    have hl2 : lv_has ls 5 [(0, .ref (ma 0)), (1, .int o), (2, .int (spO σ o (0))), (3, .int (nI (0)))] := by
      rw [e_25, e_26]
      exact lv_sub hl [2, 3, 1, 0] rfl
    exact lp14 (nL σ - 0 + 1) (0) (Nat.zero_le _) (Nat.lt_succ_self _) _ _ hM ls hl2
  · replace hM := hM.cg (congrArg (fun z => up σ 0 0 z) (if_neg c_1))
    refine lv_iconst (v := 0) hx hb dX7_spread_8 (by decide) ?_
    exact W.iret (v := 0) hx hb hr (fun t ht hW => ⟨congrArg (fun z => Outcome.returned (some (Value.int z))) (by first | rfl | (simp [-Int32.not_lt, -Int32.not_le, okL, okV, okO, okR, okD, isP, shP, spO, spI, tL, tV, tO, tD, tLV, tN, c_1]; done) | (simp_all [-Int32.not_lt, -Int32.not_le, okL, okV, okO, okR, okD, isP, shP, spO, spI, tL, tV, tO, tD, tLV, tN]; done)), by rw [ht]; exact (hM.cg (by first | rfl | (simp [-Int32.not_lt, -Int32.not_le, okL, okV, okO, okR, okD, isP, shP, spO, spI, tL, tV, tO, tD, tLV, tN, c_1, up_id]; done) | (simp_all [-Int32.not_lt, -Int32.not_le, okL, okV, okO, okR, okD, isP, shP, spO, spI, tL, tV, tO, tD, tLV, tN, up_id]; done))).1, by rw [ht]; exact hM.2.1, fun q hq => by rw [ht]; exact hM.2.2.1 q hq⟩) hM.2.2.2 dX7_spread_9
set_option maxHeartbeats 4000000 in
set_option maxRecDepth 100000 in
theorem k_dues (la : Launch) (g : EG) (lo : Nat) (ma : Nat → Nat) (hA : MA lo ma) (σ : Sg) (u : Nat → Int64) (w9 : Int32) (hI : INV σ) : Met la yX7_dues wsX7_dues ({ frames := 2, cells := 0, slots := 0, locals := 46 } : Room) (va_Pc [.ref (ma 0), .int w9] (fun U => MR g ma σ u U.heap ∧ KK g U)) (QM (.returned (some (.long (if isP w9 0 3 then f_dues σ w9 (nO σ) else 0)))) (fun H1 => MR g ma (up σ 0 0 (t_dues w9)) u H1) (mown ma)) 0 0 (fun q => lo ≤ q) := by
  refine Met.ofW (cc := cX7_dues) (maxL := 5) (ret := (some .long)) (by decide) rfl ?_
  intro p e s m args below meth c s₁ B hml hv
  obtain ⟨rfl, hR0, hK⟩ := hv
  have hx := B.exec
  have hb := B.bytes
  have hr := B.returns
  have hts := atoms_spec (ws := wsX7_dues) B.pre
  have hown : s.vm.findClass RX7 = some m.cls := findClass_of_methodNamed B.named
  have hlocks := B.notSynchronized
  have hM : MS g lo ma σ u s.heap s.heap [] := MS.start hR0
  have hinX7 : ∀ w ∈ wsX70, w ∈ wsX7_dues := by decide +kernel
  have lk23 := hts (.fieldLink RX7 23 "DyehouseLedgerModel" "customer" "[I") (by decide +kernel)
  have lk84 := hts (.fieldLink RX7 84 "DyehouseLedgerModel" "thrown" "I") (by decide +kernel)
  have lk98 := hts (.fieldLink RX7 98 "DyehouseLedgerModel" "orders" "I") (by decide +kernel)
  have hl := lv_entry ([.ref (ma 0), .int w9]) (n := 5) (Nat.le_of_ble_eq_true rfl)
  rw [lg_entry_eq]
  generalize (lg_sl ([.ref (ma 0), .int w9]) ++ List.replicate (5 - (lg_sl ([.ref (ma 0), .int w9])).length) Slot.unset).toArray = ls at hl ⊢
  have hl : lv_has ls 5 [(0, .ref (ma 0)), (1, .int w9)] := hl
  refine lv_aload_n hx hb dX7_dues_0 rfl (lv_at hl 0 rfl) ?_
  refine lv_iload_n hx hb dX7_dues_1 rfl (lv_at hl 1 rfl) ?_
  refine lv_iconst (v := 0) hx hb dX7_dues_2 (by decide) ?_
  refine lv_iconst (v := 3) hx hb dX7_dues_3 (by decide) ?_
  refine sc_ro (n := 3) (As := [.int w9, .int 0, .int 3]) (rest := [.ref (ma 0)]) (v := [.int (if isP w9 0 3 then 1 else 0)]) ⟨hx, hb, hml, hown, hts⟩ (k_isIn la w9 0 3) gX7_dues_X7_isIn rfl rfl rfl (by decide +kernel) ⟨Nat.le_of_ble_eq_true rfl, Nat.le_of_ble_eq_true rfl⟩ rfl hl.1 rfl (Nat.le_of_ble_eq_true rfl) dX7_dues_4 ⟨Nat.zero_le _, Nat.zero_le _⟩ rfl ?_
  refine br_if_eq (c9 := isP w9 0 3) (tgt := 14) hx hb dX7_dues_7 (by decide) (fun c_1 => ?_) (fun c_1 => ?_)
  · refine lv_iconst (v := 1) hx hb dX7_dues_14 (by decide) ?_
    refine m_put hx hb hA hts hinX7 hown hK hM 0 (by decide) lk84 dX7_dues_15 (fun H locs hM => ?_)
    refine lv_aload_n hx hb dX7_dues_18 rfl (lv_at hl 0 rfl) ?_
    refine m_get (v := .int 1) hx hb hts hinX7 hown hK hM 0 (by decide) lk84 rfl dX7_dues_19 ?_
    refine lv_if_eq (tgt := 27) hx hb dX7_dues_22 (by decide) (fun c_2 => ?_) (fun c_2 => ?_)
    · exact absurd c_2 (by decide)
    · refine lv_lconst (v := 0) hx hb dX7_dues_25 (by decide) ?_
      exact W.lret (v := 0) hx hb hr (fun t ht hW => ⟨congrArg (fun z => Outcome.returned (some (Value.long z))) (by first | rfl | (simp [-Int32.not_lt, -Int32.not_le, okL, okV, okO, okR, okD, isP, shP, t_dues, f_dues, sumLF, tL, tV, tO, tD, tLV, tN, c_1, c_2]; done) | (simp_all [-Int32.not_lt, -Int32.not_le, okL, okV, okO, okR, okD, isP, shP, t_dues, f_dues, sumLF, tL, tV, tO, tD, tLV, tN]; done)), by rw [ht]; exact (hM.cg (by first | rfl | (simp [-Int32.not_lt, -Int32.not_le, okL, okV, okO, okR, okD, isP, shP, t_dues, f_dues, sumLF, tL, tV, tO, tD, tLV, tN, c_1, c_2, up_id]; done) | (simp_all [-Int32.not_lt, -Int32.not_le, okL, okV, okO, okR, okD, isP, shP, t_dues, f_dues, sumLF, tL, tV, tO, tD, tLV, tN, up_id]; done))).1, by rw [ht]; exact hM.2.1, fun q hq => by rw [ht]; exact hM.2.2.1 q hq⟩) hM.2.2.2 dX7_dues_26
  · refine lv_iconst (v := 0) hx hb dX7_dues_10 (by decide) ?_
    refine lv_goto (tgt := 15) hx hb dX7_dues_11 (by decide) ?_
    refine m_put hx hb hA hts hinX7 hown hK hM 0 (by decide) lk84 dX7_dues_15 (fun H locs hM => ?_)
    refine lv_aload_n hx hb dX7_dues_18 rfl (lv_at hl 0 rfl) ?_
    refine m_get (v := .int 0) hx hb hts hinX7 hown hK hM 0 (by decide) lk84 rfl dX7_dues_19 ?_
    refine lv_if_eq (tgt := 27) hx hb dX7_dues_22 (by decide) (fun c_3 => ?_) (fun c_3 => ?_)
    · refine lv_lconst (v := 0) hx hb dX7_dues_27 (by decide) ?_
      refine lv_lstore_n (lv' := [(2, .long 0), (0, .ref (ma 0)), (1, .int w9)]) hx hb dX7_dues_28 rfl hl (by decide) rfl (fun ls hl => ?_)
      refine lv_iconst (v := 0) hx hb dX7_dues_29 (by decide) ?_
      refine lv_istore (lv' := [(4, .int 0), (2, .long 0), (0, .ref (ma 0)), (1, .int w9)]) hx hb dX7_dues_30 hl (by decide) rfl (fun ls hl => ?_)
      have lp32 : ∀ (n9 : Nat) (i : Nat), (i ≤ nO σ) → nO σ - i < n9 → ∀ (H : Heap) (locs : List Loc), MS g lo ma (up σ 0 0 0) u s.heap H locs → ∀ (ls : Array Slot), lv_has ls 5 [(0, .ref (ma 0)), (1, .int w9), (2, .long (f_dues σ w9 i)), (4, .int (nI i))] → W p la e ({ frames := 2, cells := 0, slots := 0, locals := 46 } : Room) s m ([.ref (ma 0), .int w9] : List Value).toArray below meth c H locs 0 0 (MQ below (QM (.returned (some (.long (if isP w9 0 3 then f_dues σ w9 (nO σ) else 0)))) (fun H1 => MR g ma (up σ 0 0 (t_dues w9)) u H1) (mown ma)) ([.ref (ma 0), .int w9] : List Value).toArray s 0 0 (fun q => lo ≤ q)) (F0 m 32 ls []) := by
        intro n9_32
        induction n9_32 with
        | zero => intro i _ h9 ; exact absurd h9 (Nat.not_lt_zero _)
        | succ n9_32 ih_32 =>
          intro i hi h9 H locs hM ls hl
          refine lv_iload hx hb dX7_dues_32 (lv_at hl 3 rfl) ?_
          refine lv_aload_n hx hb dX7_dues_34 rfl (lv_at hl 0 rfl) ?_
          refine m_get (v := .int (σ 2 0)) hx hb hts hinX7 hown hK hM 2 (by decide) lk98 rfl dX7_dues_35 ?_
          refine lv_icmp_ge (tgt := 72) hx hb dX7_dues_38 (by decide) (fun c_4 => ?_) (fun c_4 => ?_)
          · replace c_4 := Int32.not_lt.mpr c_4
            obtain rfl : i = nO σ := fno_eq hI hi c_4
            refine lv_lload_n hx hb dX7_dues_72 rfl (lv_at hl 2 rfl) ?_
            exact W.lret (v := (f_dues σ w9 (nO σ))) hx hb hr (fun t ht hW => ⟨congrArg (fun z => Outcome.returned (some (Value.long z))) (by first | rfl | (simp [-Int32.not_lt, -Int32.not_le, okL, okV, okO, okR, okD, isP, shP, t_dues, f_dues, sumLF, tL, tV, tO, tD, tLV, tN, c_1, c_3, hi, c_4]; done) | (simp_all [-Int32.not_lt, -Int32.not_le, okL, okV, okO, okR, okD, isP, shP, t_dues, f_dues, sumLF, tL, tV, tO, tD, tLV, tN]; done)), by rw [ht]; exact (hM.cg (by first | rfl | (simp [-Int32.not_lt, -Int32.not_le, okL, okV, okO, okR, okD, isP, shP, t_dues, f_dues, sumLF, tL, tV, tO, tD, tLV, tN, c_1, c_3, hi, c_4, up_id]; done) | (simp_all [-Int32.not_lt, -Int32.not_le, okL, okV, okO, okR, okD, isP, shP, t_dues, f_dues, sumLF, tL, tV, tO, tD, tLV, tN, up_id]; done))).1, by rw [ht]; exact hM.2.1, fun q hq => by rw [ht]; exact hM.2.2.1 q hq⟩) hM.2.2.2 dX7_dues_73
          · replace c_4 := Int32.not_le.mp c_4
            have hi1 : i < nO σ := fno_lt hI hi c_4
            have hLb := hI.o.1
            refine lv_lload_n hx hb dX7_dues_41 rfl (lv_at hl 2 rfl) ?_
            refine lv_aload_n hx hb dX7_dues_42 rfl (lv_at hl 0 rfl) ?_
            refine m_get (v := .ref (ma 9)) hx hb hts hinX7 hown hK hM 9 (by decide) lk23 rfl dX7_dues_43 ?_
            refine lv_iload hx hb dX7_dues_46 (lv_at hl 3 rfl) ?_
            refine m_iald (x := (σ 9 i)) hx hb hK hM 9 (by decide) rfl (i := (nI i)) (n := 6) (vin_mono (vin_nI hi1 (by omega)) hLb) (congrArg ((up σ 0 0 0) 9) (ti_nI (by omega))) dX7_dues_48 ?_
            refine lv_iload_n hx hb dX7_dues_49 rfl (lv_at hl 1 rfl) ?_
            refine lv_icmp_ne (tgt := 63) hx hb dX7_dues_50 (by decide) (fun c_5 => ?_) (fun c_5 => ?_)
            · refine lv_lconst (v := 0) hx hb dX7_dues_63 (by decide) ?_
              refine lv_ladd hx hb dX7_dues_64 ?_
              refine lv_lstore_n (lv' := [(2, .long ((f_dues σ w9 i) + 0)), (0, .ref (ma 0)), (1, .int w9), (4, .int (nI i))]) hx hb dX7_dues_65 rfl hl (by decide) rfl (fun ls hl => ?_)
              refine lv_iinc (v := ((nI i) + 1)) (lv' := [(4, .int ((nI i) + 1)), (2, .long ((f_dues σ w9 i) + 0)), (0, .ref (ma 0)), (1, .int w9)]) hx hb dX7_dues_66 hl (k := 3) rfl rfl (by decide) rfl (fun ls hl => ?_)
              refine lv_goto (tgt := 32) hx hb dX7_dues_69 (by decide) ?_
              have e_6 : ((f_dues σ w9 (i + 1)) : Int64) = ((f_dues σ w9 i) + 0) := (by first | rfl | (simp [-Int32.not_lt, -Int32.not_le, okL, okV, okO, okR, okD, isP, shP, t_dues, f_dues, sumLF, tL, tV, tO, tD, tLV, tN, c_1, c_3, hi, c_4, c_5]; done) | (simp_all [-Int32.not_lt, -Int32.not_le, okL, okV, okO, okR, okD, isP, shP, t_dues, f_dues, sumLF, tL, tV, tO, tD, tLV, tN]; done))
              have e_7 : ((nI (i + 1)) : Int32) = ((nI i) + 1) := (nI_1 i).symm
              have hl2 : lv_has ls 5 [(0, .ref (ma 0)), (1, .int w9), (2, .long (f_dues σ w9 (i + 1))), (4, .int (nI (i + 1)))] := by
                rw [e_6, e_7]
                exact lv_sub hl [2, 3, 1, 0] rfl
              exact ih_32 (i + 1) (by omega) (by omega) _ _ hM ls hl2
            · refine lv_aload_n hx hb dX7_dues_53 rfl (lv_at hl 0 rfl) ?_
              refine lv_iload hx hb dX7_dues_54 (lv_at hl 3 rfl) ?_
              refine mc_ro (n := 1) (As := [.int (nI i)]) (rest := [.long (f_dues σ w9 i)]) (v := [.int (f_worth σ (nI i))]) ⟨hx, hb, hml, hown, hts⟩ hK hM (k_worth la g ma (up σ 0 0 0) u (nI i) (hI.up0 _) (show vp_in (nI i) (nO σ) from vin_nI hi1 (by omega))) gX7_dues_X7_worth rfl rfl rfl (by decide +kernel) ⟨Nat.le_of_ble_eq_true rfl, Nat.le_of_ble_eq_true rfl⟩ rfl hl.1 rfl (Nat.le_of_ble_eq_true rfl) dX7_dues_56 ⟨Nat.zero_le _, Nat.zero_le _⟩ (congrArg (fun z => [Value.int z]) (worth_up _ _ _)) ?_
              refine lv_i2l hx hb dX7_dues_59 rfl ?_
              refine lv_goto (tgt := 64) hx hb dX7_dues_60 (by decide) ?_
              refine lv_ladd hx hb dX7_dues_64 ?_
              refine lv_lstore_n (lv' := [(2, .long ((f_dues σ w9 i) + (f_worth σ (nI i)).toInt64)), (0, .ref (ma 0)), (1, .int w9), (4, .int (nI i))]) hx hb dX7_dues_65 rfl hl (by decide) rfl (fun ls hl => ?_)
              refine lv_iinc (v := ((nI i) + 1)) (lv' := [(4, .int ((nI i) + 1)), (2, .long ((f_dues σ w9 i) + (f_worth σ (nI i)).toInt64)), (0, .ref (ma 0)), (1, .int w9)]) hx hb dX7_dues_66 hl (k := 3) rfl rfl (by decide) rfl (fun ls hl => ?_)
              refine lv_goto (tgt := 32) hx hb dX7_dues_69 (by decide) ?_
              have e_8 : ((f_dues σ w9 (i + 1)) : Int64) = ((f_dues σ w9 i) + (f_worth σ (nI i)).toInt64) := (by first | rfl | (simp [-Int32.not_lt, -Int32.not_le, okL, okV, okO, okR, okD, isP, shP, t_dues, f_dues, sumLF, tL, tV, tO, tD, tLV, tN, c_1, c_3, hi, c_4, c_5]; done) | (simp_all [-Int32.not_lt, -Int32.not_le, okL, okV, okO, okR, okD, isP, shP, t_dues, f_dues, sumLF, tL, tV, tO, tD, tLV, tN]; done))
              have e_9 : ((nI (i + 1)) : Int32) = ((nI i) + 1) := (nI_1 i).symm
              have hl2 : lv_has ls 5 [(0, .ref (ma 0)), (1, .int w9), (2, .long (f_dues σ w9 (i + 1))), (4, .int (nI (i + 1)))] := by
                rw [e_8, e_9]
                exact lv_sub hl [2, 3, 1, 0] rfl
              exact ih_32 (i + 1) (by omega) (by omega) _ _ hM ls hl2
      have e_10 : ((f_dues σ w9 (0)) : Int64) = 0 := (by first | rfl | (simp [-Int32.not_lt, -Int32.not_le, okL, okV, okO, okR, okD, isP, shP, t_dues, f_dues, sumLF, tL, tV, tO, tD, tLV, tN, c_1, c_3]; done) | (simp_all [-Int32.not_lt, -Int32.not_le, okL, okV, okO, okR, okD, isP, shP, t_dues, f_dues, sumLF, tL, tV, tO, tD, tLV, tN]; done))
      have e_11 : ((nI (0)) : Int32) = 0 := (by first | rfl | (simp [-Int32.not_lt, -Int32.not_le, okL, okV, okO, okR, okD, isP, shP, t_dues, f_dues, sumLF, tL, tV, tO, tD, tLV, tN, c_1, c_3]; done) | (simp_all [-Int32.not_lt, -Int32.not_le, okL, okV, okO, okR, okD, isP, shP, t_dues, f_dues, sumLF, tL, tV, tO, tD, tLV, tN]; done))
      have hl2 : lv_has ls 5 [(0, .ref (ma 0)), (1, .int w9), (2, .long (f_dues σ w9 (0))), (4, .int (nI (0)))] := by
        rw [e_10, e_11]
        exact lv_sub hl [2, 3, 1, 0] rfl
      exact lp32 (nO σ - 0 + 1) (0) (Nat.zero_le _) (Nat.lt_succ_self _) _ _ hM ls hl2
    · exact absurd c_3 (by decide)
