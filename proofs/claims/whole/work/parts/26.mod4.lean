set_option maxHeartbeats 4000000 in
set_option maxRecDepth 100000 in
theorem k_passedShare (la : Launch) (g : EG) (lo : Nat) (ma : Nat → Nat) (hA : MA lo ma) (σ : Sg) (u : Nat → Int64) (hI : INV σ) : Met la yX7_passedShare wsX7_passedShare ({ frames := 0, cells := 0, slots := 0, locals := 0 } : Room) (va_Pc [.ref (ma 0)] (fun U => MR g ma σ u U.heap ∧ KK g U)) (QM (.returned (some (.float (if c_st σ 112 (nL σ) + c_st σ 120 (nL σ) = 0 then FP.fconst0 else f_share σ)))) (fun H1 => MR g ma (up σ 0 0 (t_share σ)) u H1) (mown ma)) 0 0 (fun q => lo ≤ q) := by
  refine Met.ofW (cc := cX7_passedShare) (maxL := 4) (ret := (some .float)) (by decide) rfl ?_
  intro p e s m args below meth c s₁ B hml hv
  obtain ⟨rfl, hR0, hK⟩ := hv
  have hx := B.exec
  have hb := B.bytes
  have hr := B.returns
  have hts := atoms_spec (ws := wsX7_passedShare) B.pre
  have hown : s.vm.findClass RX7 = some m.cls := findClass_of_methodNamed B.named
  have hlocks := B.notSynchronized
  have hM : MS g lo ma σ u s.heap s.heap [] := MS.start hR0
  have hinX7 : ∀ w ∈ wsX70, w ∈ wsX7_passedShare := by decide +kernel
  have lk59 := hts (.fieldLink RX7 59 "DyehouseLedgerModel" "state" "[C") (by decide +kernel)
  have lk84 := hts (.fieldLink RX7 84 "DyehouseLedgerModel" "thrown" "I") (by decide +kernel)
  have lk92 := hts (.fieldLink RX7 92 "DyehouseLedgerModel" "lots" "I") (by decide +kernel)
  have hl := lv_entry ([.ref (ma 0)]) (n := 4) (Nat.le_of_ble_eq_true rfl)
  rw [lg_entry_eq]
  generalize (lg_sl ([.ref (ma 0)]) ++ List.replicate (4 - (lg_sl ([.ref (ma 0)])).length) Slot.unset).toArray = ls at hl ⊢
  have hl : lv_has ls 4 [(0, .ref (ma 0))] := hl
  refine lv_iconst (v := 0) hx hb dX7_passedShare_0 (by decide) ?_
  refine lv_istore_n (lv' := [(1, .int 0), (0, .ref (ma 0))]) hx hb dX7_passedShare_1 rfl hl (by decide) rfl (fun ls hl => ?_)
  refine lv_iconst (v := 0) hx hb dX7_passedShare_2 (by decide) ?_
  refine lv_istore_n (lv' := [(2, .int 0), (1, .int 0), (0, .ref (ma 0))]) hx hb dX7_passedShare_3 rfl hl (by decide) rfl (fun ls hl => ?_)
  refine lv_iconst (v := 0) hx hb dX7_passedShare_4 (by decide) ?_
  refine lv_istore_n (lv' := [(3, .int 0), (2, .int 0), (1, .int 0), (0, .ref (ma 0))]) hx hb dX7_passedShare_5 rfl hl (by decide) rfl (fun ls hl => ?_)
  have lp6 : ∀ (n9 : Nat) (i : Nat), (i ≤ nL σ) → nL σ - i < n9 → ∀ (H : Heap) (locs : List Loc), MS g lo ma σ u s.heap H locs → ∀ (ls : Array Slot), lv_has ls 4 [(0, .ref (ma 0)), (1, .int (c_st σ 112 i)), (2, .int (c_st σ 120 i)), (3, .int (nI i))] → W p la e ({ frames := 0, cells := 0, slots := 0, locals := 0 } : Room) s m ([.ref (ma 0)] : List Value).toArray below meth c H locs 0 0 (MQ below (QM (.returned (some (.float (if c_st σ 112 (nL σ) + c_st σ 120 (nL σ) = 0 then FP.fconst0 else f_share σ)))) (fun H1 => MR g ma (up σ 0 0 (t_share σ)) u H1) (mown ma)) ([.ref (ma 0)] : List Value).toArray s 0 0 (fun q => lo ≤ q)) (F0 m 6 ls []) := by
    intro n9_6
    induction n9_6 with
    | zero => intro i _ h9 ; exact absurd h9 (Nat.not_lt_zero _)
    | succ n9_6 ih_6 =>
      intro i hi h9 H locs hM ls hl
      refine lv_iload_n hx hb dX7_passedShare_6 rfl (lv_at hl 3 rfl) ?_
      refine lv_aload_n hx hb dX7_passedShare_7 rfl (lv_at hl 0 rfl) ?_
      refine m_get (v := .int (σ 3 0)) hx hb hts hinX7 hown hK hM 3 (by decide) lk92 rfl dX7_passedShare_8 ?_
      refine lv_icmp_ge (tgt := 58) hx hb dX7_passedShare_11 (by decide) (fun c_1 => ?_) (fun c_1 => ?_)
      · replace c_1 := Int32.not_lt.mpr c_1
        obtain rfl : i = nL σ := fnd_eq hI hi c_1
        refine lv_aload_n hx hb dX7_passedShare_58 rfl (lv_at hl 0 rfl) ?_
        refine lv_iload_n hx hb dX7_passedShare_59 rfl (lv_at hl 1 rfl) ?_
        refine lv_iload_n hx hb dX7_passedShare_60 rfl (lv_at hl 2 rfl) ?_
        refine lv_iadd hx hb dX7_passedShare_61 ?_
        refine lv_if_ne (tgt := 69) hx hb dX7_passedShare_62 (by decide) (fun c_2 => ?_) (fun c_2 => ?_)
        · refine lv_iconst (v := 0) hx hb dX7_passedShare_69 (by decide) ?_
          refine m_put hx hb hA hts hinX7 hown hK hM 0 (by decide) lk84 dX7_passedShare_70 (fun H locs hM => ?_)
          refine lv_aload_n hx hb dX7_passedShare_73 rfl (lv_at hl 0 rfl) ?_
          refine m_get (v := .int 0) hx hb hts hinX7 hown hK hM 0 (by decide) lk84 rfl dX7_passedShare_74 ?_
          refine lv_if_eq (tgt := 84) hx hb dX7_passedShare_77 (by decide) (fun c_3 => ?_) (fun c_3 => ?_)
          · refine lv_iload_n hx hb dX7_passedShare_84 rfl (lv_at hl 1 rfl) ?_
            refine lv_i2f hx hb dX7_passedShare_85 ?_
            refine lv_iload_n hx hb dX7_passedShare_86 rfl (lv_at hl 1 rfl) ?_
            refine lv_iload_n hx hb dX7_passedShare_87 rfl (lv_at hl 2 rfl) ?_
            refine lv_iadd hx hb dX7_passedShare_88 ?_
            refine lv_i2f hx hb dX7_passedShare_89 ?_
            refine lv_fdiv hx hb dX7_passedShare_90 (share_n hI (by assumption)) ?_
            exact W.fret (v := (FP.fdiv (FP.i2f (c_st σ 112 (nL σ))) (FP.i2f ((c_st σ 112 (nL σ)) + (c_st σ 120 (nL σ)))))) hx hb hr (fun t ht hW => ⟨congrArg (fun z => Outcome.returned (some (Value.float z))) (by first | rfl | (rw [if_pos (by assumption)]; done) | (rw [if_neg (by assumption)]; rfl)), by rw [ht]; exact (hM.cg (by unfold t_share; first | (rw [if_pos (by assumption)]; done) | (rw [if_neg (by assumption)]; done))).1, by rw [ht]; exact hM.2.1, fun q hq => by rw [ht]; exact hM.2.2.1 q hq⟩) hM.2.2.2 dX7_passedShare_91
          · exact absurd c_3 (by decide)
        · refine lv_iconst (v := 1) hx hb dX7_passedShare_65 (by decide) ?_
          refine lv_goto (tgt := 70) hx hb dX7_passedShare_66 (by decide) ?_
          refine m_put hx hb hA hts hinX7 hown hK hM 0 (by decide) lk84 dX7_passedShare_70 (fun H locs hM => ?_)
          refine lv_aload_n hx hb dX7_passedShare_73 rfl (lv_at hl 0 rfl) ?_
          refine m_get (v := .int 1) hx hb hts hinX7 hown hK hM 0 (by decide) lk84 rfl dX7_passedShare_74 ?_
          refine lv_if_eq (tgt := 84) hx hb dX7_passedShare_77 (by decide) (fun c_4 => ?_) (fun c_4 => ?_)
          · exact absurd c_4 (by decide)
          · refine lv_fconst0 hx hb dX7_passedShare_80 ?_
            refine lv_goto (tgt := 91) hx hb dX7_passedShare_81 (by decide) ?_
            exact W.fret (v := FP.fconst0) hx hb hr (fun t ht hW => ⟨congrArg (fun z => Outcome.returned (some (Value.float z))) (by first | rfl | (rw [if_pos (by assumption)]; done) | (rw [if_neg (by assumption)]; rfl)), by rw [ht]; exact (hM.cg (by unfold t_share; first | (rw [if_pos (by assumption)]; done) | (rw [if_neg (by assumption)]; done))).1, by rw [ht]; exact hM.2.1, fun q hq => by rw [ht]; exact hM.2.2.1 q hq⟩) hM.2.2.2 dX7_passedShare_91
      · replace c_1 := Int32.not_le.mp c_1
        have hi1 : i < nL σ := fnd_lt hI hi c_1
        have hLb := hI.l.1
        refine lv_iload_n hx hb dX7_passedShare_14 rfl (lv_at hl 1 rfl) ?_
        refine lv_aload_n hx hb dX7_passedShare_15 rfl (lv_at hl 0 rfl) ?_
        refine m_get (v := .ref (ma 21)) hx hb hts hinX7 hown hK hM 21 (by decide) lk59 rfl dX7_passedShare_16 ?_
        refine lv_iload_n hx hb dX7_passedShare_19 rfl (lv_at hl 3 rfl) ?_
        refine m_cald (x := (σ 21 i)) hx hb hK hM (i := (nI i)) (vin_mono (vin_nI hi1 (by omega)) hLb) (congrArg (σ 21) (ti_nI (by omega))) dX7_passedShare_20 ?_
        refine lv_bipush (v := 112) hx hb dX7_passedShare_21 (by decide) ?_
        refine lv_icmp_ne (tgt := 30) hx hb dX7_passedShare_23 (by decide) (fun c_5 => ?_) (fun c_5 => ?_)
        · refine lv_iconst (v := 0) hx hb dX7_passedShare_30 (by decide) ?_
          refine lv_iadd hx hb dX7_passedShare_31 ?_
          refine lv_istore_n (lv' := [(1, .int ((c_st σ 112 i) + 0)), (0, .ref (ma 0)), (2, .int (c_st σ 120 i)), (3, .int (nI i))]) hx hb dX7_passedShare_32 rfl hl (by decide) rfl (fun ls hl => ?_)
          refine lv_iload_n hx hb dX7_passedShare_33 rfl (lv_at hl 2 rfl) ?_
          refine lv_aload_n hx hb dX7_passedShare_34 rfl (lv_at hl 1 rfl) ?_
          refine m_get (v := .ref (ma 21)) hx hb hts hinX7 hown hK hM 21 (by decide) lk59 rfl dX7_passedShare_35 ?_
          refine lv_iload_n hx hb dX7_passedShare_38 rfl (lv_at hl 3 rfl) ?_
          refine m_cald (x := (σ 21 i)) hx hb hK hM (i := (nI i)) (vin_mono (vin_nI hi1 (by omega)) hLb) (congrArg (σ 21) (ti_nI (by omega))) dX7_passedShare_39 ?_
          refine lv_bipush (v := 120) hx hb dX7_passedShare_40 (by decide) ?_
          refine lv_icmp_ne (tgt := 49) hx hb dX7_passedShare_42 (by decide) (fun c_6 => ?_) (fun c_6 => ?_)
          · refine lv_iconst (v := 0) hx hb dX7_passedShare_49 (by decide) ?_
            refine lv_iadd hx hb dX7_passedShare_50 ?_
            refine lv_istore_n (lv' := [(2, .int ((c_st σ 120 i) + 0)), (1, .int ((c_st σ 112 i) + 0)), (0, .ref (ma 0)), (3, .int (nI i))]) hx hb dX7_passedShare_51 rfl hl (by decide) rfl (fun ls hl => ?_)
            refine lv_iinc (v := ((nI i) + 1)) (lv' := [(3, .int ((nI i) + 1)), (2, .int ((c_st σ 120 i) + 0)), (1, .int ((c_st σ 112 i) + 0)), (0, .ref (ma 0))]) hx hb dX7_passedShare_52 hl (k := 3) rfl rfl (by decide) rfl (fun ls hl => ?_)
            refine lv_goto (tgt := 6) hx hb dX7_passedShare_55 (by decide) ?_
            have e_7 : ((c_st σ 112 (i + 1)) : Int32) = ((c_st σ 112 i) + 0) := (by first | rfl | (simp [-Int32.not_lt, -Int32.not_le, okL, okV, okO, okR, okD, isP, shP, t_share, f_share, c_st, sumF, tL, tV, tO, tD, tLV, tN, hi, c_1, c_5, c_6]; done) | (simp_all [-Int32.not_lt, -Int32.not_le, okL, okV, okO, okR, okD, isP, shP, t_share, f_share, c_st, sumF, tL, tV, tO, tD, tLV, tN]; done))
            have e_8 : ((c_st σ 120 (i + 1)) : Int32) = ((c_st σ 120 i) + 0) := (by first | rfl | (simp [-Int32.not_lt, -Int32.not_le, okL, okV, okO, okR, okD, isP, shP, t_share, f_share, c_st, sumF, tL, tV, tO, tD, tLV, tN, hi, c_1, c_5, c_6]; done) | (simp_all [-Int32.not_lt, -Int32.not_le, okL, okV, okO, okR, okD, isP, shP, t_share, f_share, c_st, sumF, tL, tV, tO, tD, tLV, tN]; done))
            have e_9 : ((nI (i + 1)) : Int32) = ((nI i) + 1) := (nI_1 i).symm
            have hl2 : lv_has ls 4 [(0, .ref (ma 0)), (1, .int (c_st σ 112 (i + 1))), (2, .int (c_st σ 120 (i + 1))), (3, .int (nI (i + 1)))] := by
              rw [e_7, e_8, e_9]
              exact lv_sub hl [3, 2, 1, 0] rfl
            exact ih_6 (i + 1) (by omega) (by omega) _ _ hM ls hl2
          · refine lv_iconst (v := 1) hx hb dX7_passedShare_45 (by decide) ?_
            refine lv_goto (tgt := 50) hx hb dX7_passedShare_46 (by decide) ?_
            refine lv_iadd hx hb dX7_passedShare_50 ?_
            refine lv_istore_n (lv' := [(2, .int ((c_st σ 120 i) + 1)), (1, .int ((c_st σ 112 i) + 0)), (0, .ref (ma 0)), (3, .int (nI i))]) hx hb dX7_passedShare_51 rfl hl (by decide) rfl (fun ls hl => ?_)
            refine lv_iinc (v := ((nI i) + 1)) (lv' := [(3, .int ((nI i) + 1)), (2, .int ((c_st σ 120 i) + 1)), (1, .int ((c_st σ 112 i) + 0)), (0, .ref (ma 0))]) hx hb dX7_passedShare_52 hl (k := 3) rfl rfl (by decide) rfl (fun ls hl => ?_)
            refine lv_goto (tgt := 6) hx hb dX7_passedShare_55 (by decide) ?_
            have e_10 : ((c_st σ 112 (i + 1)) : Int32) = ((c_st σ 112 i) + 0) := (by first | rfl | (simp [-Int32.not_lt, -Int32.not_le, okL, okV, okO, okR, okD, isP, shP, t_share, f_share, c_st, sumF, tL, tV, tO, tD, tLV, tN, hi, c_1, c_5, c_6]; done) | (simp_all [-Int32.not_lt, -Int32.not_le, okL, okV, okO, okR, okD, isP, shP, t_share, f_share, c_st, sumF, tL, tV, tO, tD, tLV, tN]; done))
            have e_11 : ((c_st σ 120 (i + 1)) : Int32) = ((c_st σ 120 i) + 1) := (by first | rfl | (simp [-Int32.not_lt, -Int32.not_le, okL, okV, okO, okR, okD, isP, shP, t_share, f_share, c_st, sumF, tL, tV, tO, tD, tLV, tN, hi, c_1, c_5, c_6]; done) | (simp_all [-Int32.not_lt, -Int32.not_le, okL, okV, okO, okR, okD, isP, shP, t_share, f_share, c_st, sumF, tL, tV, tO, tD, tLV, tN]; done))
            have e_12 : ((nI (i + 1)) : Int32) = ((nI i) + 1) := (nI_1 i).symm
            have hl2 : lv_has ls 4 [(0, .ref (ma 0)), (1, .int (c_st σ 112 (i + 1))), (2, .int (c_st σ 120 (i + 1))), (3, .int (nI (i + 1)))] := by
              rw [e_10, e_11, e_12]
              exact lv_sub hl [3, 2, 1, 0] rfl
            exact ih_6 (i + 1) (by omega) (by omega) _ _ hM ls hl2
        · refine lv_iconst (v := 1) hx hb dX7_passedShare_26 (by decide) ?_
          refine lv_goto (tgt := 31) hx hb dX7_passedShare_27 (by decide) ?_
          refine lv_iadd hx hb dX7_passedShare_31 ?_
          refine lv_istore_n (lv' := [(1, .int ((c_st σ 112 i) + 1)), (0, .ref (ma 0)), (2, .int (c_st σ 120 i)), (3, .int (nI i))]) hx hb dX7_passedShare_32 rfl hl (by decide) rfl (fun ls hl => ?_)
          refine lv_iload_n hx hb dX7_passedShare_33 rfl (lv_at hl 2 rfl) ?_
          refine lv_aload_n hx hb dX7_passedShare_34 rfl (lv_at hl 1 rfl) ?_
          refine m_get (v := .ref (ma 21)) hx hb hts hinX7 hown hK hM 21 (by decide) lk59 rfl dX7_passedShare_35 ?_
          refine lv_iload_n hx hb dX7_passedShare_38 rfl (lv_at hl 3 rfl) ?_
          refine m_cald (x := (σ 21 i)) hx hb hK hM (i := (nI i)) (vin_mono (vin_nI hi1 (by omega)) hLb) (congrArg (σ 21) (ti_nI (by omega))) dX7_passedShare_39 ?_
          refine lv_bipush (v := 120) hx hb dX7_passedShare_40 (by decide) ?_
          refine lv_icmp_ne (tgt := 49) hx hb dX7_passedShare_42 (by decide) (fun c_13 => ?_) (fun c_13 => ?_)
          · refine lv_iconst (v := 0) hx hb dX7_passedShare_49 (by decide) ?_
            refine lv_iadd hx hb dX7_passedShare_50 ?_
            refine lv_istore_n (lv' := [(2, .int ((c_st σ 120 i) + 0)), (1, .int ((c_st σ 112 i) + 1)), (0, .ref (ma 0)), (3, .int (nI i))]) hx hb dX7_passedShare_51 rfl hl (by decide) rfl (fun ls hl => ?_)
            refine lv_iinc (v := ((nI i) + 1)) (lv' := [(3, .int ((nI i) + 1)), (2, .int ((c_st σ 120 i) + 0)), (1, .int ((c_st σ 112 i) + 1)), (0, .ref (ma 0))]) hx hb dX7_passedShare_52 hl (k := 3) rfl rfl (by decide) rfl (fun ls hl => ?_)
            refine lv_goto (tgt := 6) hx hb dX7_passedShare_55 (by decide) ?_
            have e_14 : ((c_st σ 112 (i + 1)) : Int32) = ((c_st σ 112 i) + 1) := (by first | rfl | (simp [-Int32.not_lt, -Int32.not_le, okL, okV, okO, okR, okD, isP, shP, t_share, f_share, c_st, sumF, tL, tV, tO, tD, tLV, tN, hi, c_1, c_5, c_13]; done) | (simp_all [-Int32.not_lt, -Int32.not_le, okL, okV, okO, okR, okD, isP, shP, t_share, f_share, c_st, sumF, tL, tV, tO, tD, tLV, tN]; done))
            have e_15 : ((c_st σ 120 (i + 1)) : Int32) = ((c_st σ 120 i) + 0) := (by first | rfl | (simp [-Int32.not_lt, -Int32.not_le, okL, okV, okO, okR, okD, isP, shP, t_share, f_share, c_st, sumF, tL, tV, tO, tD, tLV, tN, hi, c_1, c_5, c_13]; done) | (simp_all [-Int32.not_lt, -Int32.not_le, okL, okV, okO, okR, okD, isP, shP, t_share, f_share, c_st, sumF, tL, tV, tO, tD, tLV, tN]; done))
            have e_16 : ((nI (i + 1)) : Int32) = ((nI i) + 1) := (nI_1 i).symm
            have hl2 : lv_has ls 4 [(0, .ref (ma 0)), (1, .int (c_st σ 112 (i + 1))), (2, .int (c_st σ 120 (i + 1))), (3, .int (nI (i + 1)))] := by
              rw [e_14, e_15, e_16]
              exact lv_sub hl [3, 2, 1, 0] rfl
            exact ih_6 (i + 1) (by omega) (by omega) _ _ hM ls hl2
          · refine lv_iconst (v := 1) hx hb dX7_passedShare_45 (by decide) ?_
            refine lv_goto (tgt := 50) hx hb dX7_passedShare_46 (by decide) ?_
            refine lv_iadd hx hb dX7_passedShare_50 ?_
            refine lv_istore_n (lv' := [(2, .int ((c_st σ 120 i) + 1)), (1, .int ((c_st σ 112 i) + 1)), (0, .ref (ma 0)), (3, .int (nI i))]) hx hb dX7_passedShare_51 rfl hl (by decide) rfl (fun ls hl => ?_)
            refine lv_iinc (v := ((nI i) + 1)) (lv' := [(3, .int ((nI i) + 1)), (2, .int ((c_st σ 120 i) + 1)), (1, .int ((c_st σ 112 i) + 1)), (0, .ref (ma 0))]) hx hb dX7_passedShare_52 hl (k := 3) rfl rfl (by decide) rfl (fun ls hl => ?_)
            refine lv_goto (tgt := 6) hx hb dX7_passedShare_55 (by decide) ?_
            have e_17 : ((c_st σ 112 (i + 1)) : Int32) = ((c_st σ 112 i) + 1) := (by first | rfl | (simp [-Int32.not_lt, -Int32.not_le, okL, okV, okO, okR, okD, isP, shP, t_share, f_share, c_st, sumF, tL, tV, tO, tD, tLV, tN, hi, c_1, c_5, c_13]; done) | (simp_all [-Int32.not_lt, -Int32.not_le, okL, okV, okO, okR, okD, isP, shP, t_share, f_share, c_st, sumF, tL, tV, tO, tD, tLV, tN]; done))
            have e_18 : ((c_st σ 120 (i + 1)) : Int32) = ((c_st σ 120 i) + 1) := (by first | rfl | (simp [-Int32.not_lt, -Int32.not_le, okL, okV, okO, okR, okD, isP, shP, t_share, f_share, c_st, sumF, tL, tV, tO, tD, tLV, tN, hi, c_1, c_5, c_13]; done) | (simp_all [-Int32.not_lt, -Int32.not_le, okL, okV, okO, okR, okD, isP, shP, t_share, f_share, c_st, sumF, tL, tV, tO, tD, tLV, tN]; done))
            have e_19 : ((nI (i + 1)) : Int32) = ((nI i) + 1) := (nI_1 i).symm
            have hl2 : lv_has ls 4 [(0, .ref (ma 0)), (1, .int (c_st σ 112 (i + 1))), (2, .int (c_st σ 120 (i + 1))), (3, .int (nI (i + 1)))] := by
              rw [e_17, e_18, e_19]
              exact lv_sub hl [3, 2, 1, 0] rfl
            exact ih_6 (i + 1) (by omega) (by omega) _ _ hM ls hl2
  have e_20 : ((c_st σ 112 (0)) : Int32) = 0 := (by first | rfl | (simp [-Int32.not_lt, -Int32.not_le, okL, okV, okO, okR, okD, isP, shP, t_share, f_share, c_st, sumF, tL, tV, tO, tD, tLV, tN]; done) | (simp_all [-Int32.not_lt, -Int32.not_le, okL, okV, okO, okR, okD, isP, shP, t_share, f_share, c_st, sumF, tL, tV, tO, tD, tLV, tN]; done))
  have e_21 : ((c_st σ 120 (0)) : Int32) = 0 := (by first | rfl | (simp [-Int32.not_lt, -Int32.not_le, okL, okV, okO, okR, okD, isP, shP, t_share, f_share, c_st, sumF, tL, tV, tO, tD, tLV, tN]; done) | (simp_all [-Int32.not_lt, -Int32.not_le, okL, okV, okO, okR, okD, isP, shP, t_share, f_share, c_st, sumF, tL, tV, tO, tD, tLV, tN]; done))
  have e_22 : ((nI (0)) : Int32) = 0 := (by first | rfl | (simp [-Int32.not_lt, -Int32.not_le, okL, okV, okO, okR, okD, isP, shP, t_share, f_share, c_st, sumF, tL, tV, tO, tD, tLV, tN]; done) | (simp_all [-Int32.not_lt, -Int32.not_le, okL, okV, okO, okR, okD, isP, shP, t_share, f_share, c_st, sumF, tL, tV, tO, tD, tLV, tN]; done))
  have hl2 : lv_has ls 4 [(0, .ref (ma 0)), (1, .int (c_st σ 112 (0))), (2, .int (c_st σ 120 (0))), (3, .int (nI (0)))] := by
    rw [e_20, e_21, e_22]
    exact lv_sub hl [3, 2, 1, 0] rfl
  exact lp6 (nL σ - 0 + 1) (0) (Nat.zero_le _) (Nat.lt_succ_self _) _ _ hM ls hl2
set_option maxHeartbeats 4000000 in
set_option maxRecDepth 100000 in
theorem k_meanOff (la : Launch) (g : EG) (lo : Nat) (ma : Nat → Nat) (hA : MA lo ma) (σ : Sg) (u : Nat → Int64) (hI : INV σ) : Met la yX7_meanOff wsX7_meanOff ({ frames := 2, cells := 0, slots := 0, locals := 43 } : Room) (va_Pc [.ref (ma 0)] (fun U => MR g ma σ u U.heap ∧ KK g U)) (QM (.returned (some (.double (if c_nw σ (nL σ) = 0 then FP.dconst0 else f_mean σ)))) (fun H1 => MR g ma (up σ 0 0 (t_mean σ)) u H1) (mown ma)) 0 0 (fun q => lo ≤ q) := by
  refine Met.ofW (cc := cX7_meanOff) (maxL := 4) (ret := (some .double)) (by decide) rfl ?_
  intro p e s m args below meth c s₁ B hml hv
  obtain ⟨rfl, hR0, hK⟩ := hv
  have hx := B.exec
  have hb := B.bytes
  have hr := B.returns
  have hts := atoms_spec (ws := wsX7_meanOff) B.pre
  have hown : s.vm.findClass RX7 = some m.cls := findClass_of_methodNamed B.named
  have hlocks := B.notSynchronized
  have hM : MS g lo ma σ u s.heap s.heap [] := MS.start hR0
  have hinX7 : ∀ w ∈ wsX70, w ∈ wsX7_meanOff := by decide +kernel
  have lk59 := hts (.fieldLink RX7 59 "DyehouseLedgerModel" "state" "[C") (by decide +kernel)
  have lk84 := hts (.fieldLink RX7 84 "DyehouseLedgerModel" "thrown" "I") (by decide +kernel)
  have lk92 := hts (.fieldLink RX7 92 "DyehouseLedgerModel" "lots" "I") (by decide +kernel)
  have hl := lv_entry ([.ref (ma 0)]) (n := 4) (Nat.le_of_ble_eq_true rfl)
  rw [lg_entry_eq]
  generalize (lg_sl ([.ref (ma 0)]) ++ List.replicate (4 - (lg_sl ([.ref (ma 0)])).length) Slot.unset).toArray = ls at hl ⊢
  have hl : lv_has ls 4 [(0, .ref (ma 0))] := hl
  refine lv_iconst (v := 0) hx hb dX7_meanOff_0 (by decide) ?_
  refine lv_istore_n (lv' := [(1, .int 0), (0, .ref (ma 0))]) hx hb dX7_meanOff_1 rfl hl (by decide) rfl (fun ls hl => ?_)
  refine lv_iconst (v := 0) hx hb dX7_meanOff_2 (by decide) ?_
  refine lv_istore_n (lv' := [(2, .int 0), (1, .int 0), (0, .ref (ma 0))]) hx hb dX7_meanOff_3 rfl hl (by decide) rfl (fun ls hl => ?_)
  refine lv_iconst (v := 0) hx hb dX7_meanOff_4 (by decide) ?_
  refine lv_istore_n (lv' := [(3, .int 0), (2, .int 0), (1, .int 0), (0, .ref (ma 0))]) hx hb dX7_meanOff_5 rfl hl (by decide) rfl (fun ls hl => ?_)
  have lp6 : ∀ (n9 : Nat) (i : Nat), (i ≤ nL σ) → nL σ - i < n9 → ∀ (H : Heap) (locs : List Loc), MS g lo ma σ u s.heap H locs → ∀ (ls : Array Slot), lv_has ls 4 [(0, .ref (ma 0)), (1, .int (s_off σ i)), (2, .int (c_nw σ i)), (3, .int (nI i))] → W p la e ({ frames := 2, cells := 0, slots := 0, locals := 43 } : Room) s m ([.ref (ma 0)] : List Value).toArray below meth c H locs 0 0 (MQ below (QM (.returned (some (.double (if c_nw σ (nL σ) = 0 then FP.dconst0 else f_mean σ)))) (fun H1 => MR g ma (up σ 0 0 (t_mean σ)) u H1) (mown ma)) ([.ref (ma 0)] : List Value).toArray s 0 0 (fun q => lo ≤ q)) (F0 m 6 ls []) := by
    intro n9_6
    induction n9_6 with
    | zero => intro i _ h9 ; exact absurd h9 (Nat.not_lt_zero _)
    | succ n9_6 ih_6 =>
      intro i hi h9 H locs hM ls hl
      refine lv_iload_n hx hb dX7_meanOff_6 rfl (lv_at hl 3 rfl) ?_
      refine lv_aload_n hx hb dX7_meanOff_7 rfl (lv_at hl 0 rfl) ?_
      refine m_get (v := .int (σ 3 0)) hx hb hts hinX7 hown hK hM 3 (by decide) lk92 rfl dX7_meanOff_8 ?_
      refine lv_icmp_ge (tgt := 45) hx hb dX7_meanOff_11 (by decide) (fun c_1 => ?_) (fun c_1 => ?_)
      · replace c_1 := Int32.not_lt.mpr c_1
        obtain rfl : i = nL σ := fnd_eq hI hi c_1
        refine lv_aload_n hx hb dX7_meanOff_45 rfl (lv_at hl 0 rfl) ?_
        refine lv_iload_n hx hb dX7_meanOff_46 rfl (lv_at hl 2 rfl) ?_
        refine lv_if_ne (tgt := 54) hx hb dX7_meanOff_47 (by decide) (fun c_2 => ?_) (fun c_2 => ?_)
        · refine lv_iconst (v := 0) hx hb dX7_meanOff_54 (by decide) ?_
          refine m_put hx hb hA hts hinX7 hown hK hM 0 (by decide) lk84 dX7_meanOff_55 (fun H locs hM => ?_)
          refine lv_iload_n hx hb dX7_meanOff_58 rfl (lv_at hl 2 rfl) ?_
          refine lv_if_ne (tgt := 66) hx hb dX7_meanOff_59 (by decide) (fun c_3 => ?_) (fun c_3 => ?_)
          · refine lv_iload_n hx hb dX7_meanOff_66 rfl (lv_at hl 1 rfl) ?_
            refine lv_i2d hx hb dX7_meanOff_67 ?_
            refine lv_iload_n hx hb dX7_meanOff_68 rfl (lv_at hl 2 rfl) ?_
            refine lv_i2d hx hb dX7_meanOff_69 ?_
            refine lv_ddiv hx hb dX7_meanOff_70 (mean_n hI (by assumption)) ?_
            exact W.dret (v := (FP.ddiv (FP.i2d (s_off σ (nL σ))) (FP.i2d (c_nw σ (nL σ))))) hx hb hr (fun t ht hW => ⟨congrArg (fun z => Outcome.returned (some (Value.double z))) (by first | rfl | (rw [if_pos (by assumption)]; done) | (rw [if_neg (by assumption)]; rfl)), by rw [ht]; exact (hM.cg (by unfold t_mean; first | (rw [if_pos (by assumption)]; done) | (rw [if_neg (by assumption)]; done))).1, by rw [ht]; exact hM.2.1, fun q hq => by rw [ht]; exact hM.2.2.1 q hq⟩) hM.2.2.2 dX7_meanOff_71
          · refine lv_dconst0 hx hb dX7_meanOff_62 ?_
            refine lv_goto (tgt := 71) hx hb dX7_meanOff_63 (by decide) ?_
            exact W.dret (v := FP.dconst0) hx hb hr (fun t ht hW => ⟨congrArg (fun z => Outcome.returned (some (Value.double z))) (by first | rfl | (rw [if_pos (by assumption)]; done) | (rw [if_neg (by assumption)]; rfl)), by rw [ht]; exact (hM.cg (by unfold t_mean; first | (rw [if_pos (by assumption)]; done) | (rw [if_neg (by assumption)]; done))).1, by rw [ht]; exact hM.2.1, fun q hq => by rw [ht]; exact hM.2.2.1 q hq⟩) hM.2.2.2 dX7_meanOff_71
        · refine lv_iconst (v := 1) hx hb dX7_meanOff_50 (by decide) ?_
          refine lv_goto (tgt := 55) hx hb dX7_meanOff_51 (by decide) ?_
          refine m_put hx hb hA hts hinX7 hown hK hM 0 (by decide) lk84 dX7_meanOff_55 (fun H locs hM => ?_)
          refine lv_iload_n hx hb dX7_meanOff_58 rfl (lv_at hl 2 rfl) ?_
          refine lv_if_ne (tgt := 66) hx hb dX7_meanOff_59 (by decide) (fun c_4 => ?_) (fun c_4 => ?_)
          · refine lv_iload_n hx hb dX7_meanOff_66 rfl (lv_at hl 1 rfl) ?_
            refine lv_i2d hx hb dX7_meanOff_67 ?_
            refine lv_iload_n hx hb dX7_meanOff_68 rfl (lv_at hl 2 rfl) ?_
            refine lv_i2d hx hb dX7_meanOff_69 ?_
            refine lv_ddiv hx hb dX7_meanOff_70 (mean_n hI (by assumption)) ?_
            exact W.dret (v := (FP.ddiv (FP.i2d (s_off σ (nL σ))) (FP.i2d (c_nw σ (nL σ))))) hx hb hr (fun t ht hW => ⟨congrArg (fun z => Outcome.returned (some (Value.double z))) (by first | rfl | (rw [if_pos (by assumption)]; done) | (rw [if_neg (by assumption)]; rfl)), by rw [ht]; exact (hM.cg (by unfold t_mean; first | (rw [if_pos (by assumption)]; done) | (rw [if_neg (by assumption)]; done))).1, by rw [ht]; exact hM.2.1, fun q hq => by rw [ht]; exact hM.2.2.1 q hq⟩) hM.2.2.2 dX7_meanOff_71
          · refine lv_dconst0 hx hb dX7_meanOff_62 ?_
            refine lv_goto (tgt := 71) hx hb dX7_meanOff_63 (by decide) ?_
            exact W.dret (v := FP.dconst0) hx hb hr (fun t ht hW => ⟨congrArg (fun z => Outcome.returned (some (Value.double z))) (by first | rfl | (rw [if_pos (by assumption)]; done) | (rw [if_neg (by assumption)]; rfl)), by rw [ht]; exact (hM.cg (by unfold t_mean; first | (rw [if_pos (by assumption)]; done) | (rw [if_neg (by assumption)]; done))).1, by rw [ht]; exact hM.2.1, fun q hq => by rw [ht]; exact hM.2.2.1 q hq⟩) hM.2.2.2 dX7_meanOff_71
      · replace c_1 := Int32.not_le.mp c_1
        have hi1 : i < nL σ := fnd_lt hI hi c_1
        have hLb := hI.l.1
        refine lv_aload_n hx hb dX7_meanOff_14 rfl (lv_at hl 0 rfl) ?_
        refine m_get (v := .ref (ma 21)) hx hb hts hinX7 hown hK hM 21 (by decide) lk59 rfl dX7_meanOff_15 ?_
        refine lv_iload_n hx hb dX7_meanOff_18 rfl (lv_at hl 3 rfl) ?_
        refine m_cald (x := (σ 21 i)) hx hb hK hM (i := (nI i)) (vin_mono (vin_nI hi1 (by omega)) hLb) (congrArg (σ 21) (ti_nI (by omega))) dX7_meanOff_19 ?_
        refine lv_bipush (v := 119) hx hb dX7_meanOff_20 (by decide) ?_
        refine lv_icmp_ne (tgt := 28) hx hb dX7_meanOff_22 (by decide) (fun c_5 => ?_) (fun c_5 => ?_)
        · refine lv_iload_n hx hb dX7_meanOff_28 rfl (lv_at hl 1 rfl) ?_
          refine lv_aload_n hx hb dX7_meanOff_29 rfl (lv_at hl 0 rfl) ?_
          refine lv_iload_n hx hb dX7_meanOff_30 rfl (lv_at hl 3 rfl) ?_
          refine mc_ro (n := 1) (As := [.int (nI i)]) (rest := [.int (s_off σ i)]) (v := [.int (f_off σ (nI i))]) ⟨hx, hb, hml, hown, hts⟩ hK hM (k_off la g ma σ u (nI i) hI (vin_nI hi1 (by omega))) gX7_meanOff_X7_off rfl rfl rfl (by decide +kernel) ⟨Nat.le_of_ble_eq_true rfl, Nat.le_of_ble_eq_true rfl⟩ rfl hl.1 rfl (Nat.le_of_ble_eq_true rfl) dX7_meanOff_31 ⟨Nat.zero_le _, Nat.zero_le _⟩ rfl ?_
          refine lv_iadd hx hb dX7_meanOff_34 ?_
          refine lv_istore_n (lv' := [(1, .int ((s_off σ i) + (f_off σ (nI i)))), (0, .ref (ma 0)), (2, .int (c_nw σ i)), (3, .int (nI i))]) hx hb dX7_meanOff_35 rfl hl (by decide) rfl (fun ls hl => ?_)
          refine lv_iinc (v := ((c_nw σ i) + 1)) (lv' := [(2, .int ((c_nw σ i) + 1)), (1, .int ((s_off σ i) + (f_off σ (nI i)))), (0, .ref (ma 0)), (3, .int (nI i))]) hx hb dX7_meanOff_36 hl (k := 2) rfl rfl (by decide) rfl (fun ls hl => ?_)
          refine lv_iinc (v := ((nI i) + 1)) (lv' := [(3, .int ((nI i) + 1)), (2, .int ((c_nw σ i) + 1)), (1, .int ((s_off σ i) + (f_off σ (nI i)))), (0, .ref (ma 0))]) hx hb dX7_meanOff_39 hl (k := 3) rfl rfl (by decide) rfl (fun ls hl => ?_)
          refine lv_goto (tgt := 6) hx hb dX7_meanOff_42 (by decide) ?_
          have e_6 : ((s_off σ (i + 1)) : Int32) = ((s_off σ i) + (f_off σ (nI i))) := (by first | rfl | (simp [-Int32.not_lt, -Int32.not_le, okL, okV, okO, okR, okD, isP, shP, t_mean, f_mean, c_nw, s_off, sumF, tL, tV, tO, tD, tLV, tN, hi, c_1, c_5]; done) | (simp_all [-Int32.not_lt, -Int32.not_le, okL, okV, okO, okR, okD, isP, shP, t_mean, f_mean, c_nw, s_off, sumF, tL, tV, tO, tD, tLV, tN]; done))
          have e_7 : ((c_nw σ (i + 1)) : Int32) = ((c_nw σ i) + 1) := (by first | rfl | (simp [-Int32.not_lt, -Int32.not_le, okL, okV, okO, okR, okD, isP, shP, t_mean, f_mean, c_nw, s_off, sumF, tL, tV, tO, tD, tLV, tN, hi, c_1, c_5]; done) | (simp_all [-Int32.not_lt, -Int32.not_le, okL, okV, okO, okR, okD, isP, shP, t_mean, f_mean, c_nw, s_off, sumF, tL, tV, tO, tD, tLV, tN]; done))
          have e_8 : ((nI (i + 1)) : Int32) = ((nI i) + 1) := (nI_1 i).symm
          have hl2 : lv_has ls 4 [(0, .ref (ma 0)), (1, .int (s_off σ (i + 1))), (2, .int (c_nw σ (i + 1))), (3, .int (nI (i + 1)))] := by
            rw [e_6, e_7, e_8]
            exact lv_sub hl [3, 2, 1, 0] rfl
          exact ih_6 (i + 1) (by omega) (by omega) _ _ hM ls hl2
        · refine lv_goto (tgt := 39) hx hb dX7_meanOff_25 (by decide) ?_
          refine lv_iinc (v := ((nI i) + 1)) (lv' := [(3, .int ((nI i) + 1)), (0, .ref (ma 0)), (1, .int (s_off σ i)), (2, .int (c_nw σ i))]) hx hb dX7_meanOff_39 hl (k := 3) rfl rfl (by decide) rfl (fun ls hl => ?_)
          refine lv_goto (tgt := 6) hx hb dX7_meanOff_42 (by decide) ?_
          have e_9 : ((s_off σ (i + 1)) : Int32) = (s_off σ i) := (by first | rfl | (simp [-Int32.not_lt, -Int32.not_le, okL, okV, okO, okR, okD, isP, shP, t_mean, f_mean, c_nw, s_off, sumF, tL, tV, tO, tD, tLV, tN, hi, c_1, c_5]; done) | (simp_all [-Int32.not_lt, -Int32.not_le, okL, okV, okO, okR, okD, isP, shP, t_mean, f_mean, c_nw, s_off, sumF, tL, tV, tO, tD, tLV, tN]; done))
          have e_10 : ((c_nw σ (i + 1)) : Int32) = (c_nw σ i) := (by first | rfl | (simp [-Int32.not_lt, -Int32.not_le, okL, okV, okO, okR, okD, isP, shP, t_mean, f_mean, c_nw, s_off, sumF, tL, tV, tO, tD, tLV, tN, hi, c_1, c_5]; done) | (simp_all [-Int32.not_lt, -Int32.not_le, okL, okV, okO, okR, okD, isP, shP, t_mean, f_mean, c_nw, s_off, sumF, tL, tV, tO, tD, tLV, tN]; done))
          have e_11 : ((nI (i + 1)) : Int32) = ((nI i) + 1) := (nI_1 i).symm
          have hl2 : lv_has ls 4 [(0, .ref (ma 0)), (1, .int (s_off σ (i + 1))), (2, .int (c_nw σ (i + 1))), (3, .int (nI (i + 1)))] := by
            rw [e_9, e_10, e_11]
            exact lv_sub hl [1, 2, 3, 0] rfl
          exact ih_6 (i + 1) (by omega) (by omega) _ _ hM ls hl2
  have e_12 : ((s_off σ (0)) : Int32) = 0 := (by first | rfl | (simp [-Int32.not_lt, -Int32.not_le, okL, okV, okO, okR, okD, isP, shP, t_mean, f_mean, c_nw, s_off, sumF, tL, tV, tO, tD, tLV, tN]; done) | (simp_all [-Int32.not_lt, -Int32.not_le, okL, okV, okO, okR, okD, isP, shP, t_mean, f_mean, c_nw, s_off, sumF, tL, tV, tO, tD, tLV, tN]; done))
  have e_13 : ((c_nw σ (0)) : Int32) = 0 := (by first | rfl | (simp [-Int32.not_lt, -Int32.not_le, okL, okV, okO, okR, okD, isP, shP, t_mean, f_mean, c_nw, s_off, sumF, tL, tV, tO, tD, tLV, tN]; done) | (simp_all [-Int32.not_lt, -Int32.not_le, okL, okV, okO, okR, okD, isP, shP, t_mean, f_mean, c_nw, s_off, sumF, tL, tV, tO, tD, tLV, tN]; done))
  have e_14 : ((nI (0)) : Int32) = 0 := (by first | rfl | (simp [-Int32.not_lt, -Int32.not_le, okL, okV, okO, okR, okD, isP, shP, t_mean, f_mean, c_nw, s_off, sumF, tL, tV, tO, tD, tLV, tN]; done) | (simp_all [-Int32.not_lt, -Int32.not_le, okL, okV, okO, okR, okD, isP, shP, t_mean, f_mean, c_nw, s_off, sumF, tL, tV, tO, tD, tLV, tN]; done))
  have hl2 : lv_has ls 4 [(0, .ref (ma 0)), (1, .int (s_off σ (0))), (2, .int (c_nw σ (0))), (3, .int (nI (0)))] := by
    rw [e_12, e_13, e_14]
    exact lv_sub hl [3, 2, 1, 0] rfl
  exact lp6 (nL σ - 0 + 1) (0) (Nat.zero_le _) (Nat.lt_succ_self _) _ _ hM ls hl2
