set_option maxHeartbeats 4000000 in
set_option maxRecDepth 100000 in
theorem k_swap (la : Launch) (g : EG) (lo : Nat) (ma : Nat → Nat) (hA : MA lo ma) (σ : Sg) (u : Nat → Int64) (a b : Int32) (ka : vp_in a 6) (kb : vp_in b 6) : Met la yX7_swap wsX7_swap ({ frames := 0, cells := 0, slots := 0, locals := 0 } : Room) (va_Pc [.ref (ma 0), .int a, .int b] (fun U => MR g ma σ u U.heap ∧ KK g U)) (QM (.returned none) (fun H1 => MR g ma (rw27 σ (swG (σ 27) (ti a) (ti b))) u H1) (mown ma)) 0 0 (fun q => lo ≤ q) := by
  refine Met.ofW (cc := cX7_swap) (maxL := 4) (ret := none) (by decide) rfl ?_
  intro p e s m args below meth c s₁ B hml hv
  obtain ⟨rfl, hR0, hK⟩ := hv
  have hx := B.exec
  have hb := B.bytes
  have hr := B.returns
  have hts := atoms_spec (ws := wsX7_swap) B.pre
  have hown : s.vm.findClass RX7 = some m.cls := findClass_of_methodNamed B.named
  have hlocks := B.notSynchronized
  have hM : MS g lo ma σ u s.heap s.heap [] := MS.start hR0
  have hinX7 : ∀ w ∈ wsX70, w ∈ wsX7_swap := by decide +kernel
  have lk78 := hts (.fieldLink RX7 78 "DyehouseLedgerModel" "row" "[I") (by decide +kernel)
  have hl := lv_entry ([.ref (ma 0), .int a, .int b]) (n := 4) (Nat.le_of_ble_eq_true rfl)
  rw [lg_entry_eq]
  generalize (lg_sl ([.ref (ma 0), .int a, .int b]) ++ List.replicate (4 - (lg_sl ([.ref (ma 0), .int a, .int b])).length) Slot.unset).toArray = ls at hl ⊢
  have hl : lv_has ls 4 [(0, .ref (ma 0)), (1, .int a), (2, .int b)] := hl
  refine lv_aload_n hx hb dX7_swap_0 rfl (lv_at hl 0 rfl) ?_
  refine m_get (v := .ref (ma 27)) hx hb hts hinX7 hown hK hM 27 (by decide) lk78 rfl dX7_swap_1 ?_
  refine lv_iload_n hx hb dX7_swap_4 rfl (lv_at hl 1 rfl) ?_
  refine m_iald (x := (σ 27 (ti a))) hx hb hK hM 27 (by decide) rfl (i := a) (n := 6) ka rfl dX7_swap_5 ?_
  refine lv_istore_n (lv' := [(3, .int (σ 27 (ti a))), (0, .ref (ma 0)), (1, .int a), (2, .int b)]) hx hb dX7_swap_6 rfl hl (by decide) rfl (fun ls hl => ?_)
  refine lv_aload_n hx hb dX7_swap_7 rfl (lv_at hl 1 rfl) ?_
  refine m_get (v := .ref (ma 27)) hx hb hts hinX7 hown hK hM 27 (by decide) lk78 rfl dX7_swap_8 ?_
  refine lv_iload_n hx hb dX7_swap_11 rfl (lv_at hl 2 rfl) ?_
  refine lv_aload_n hx hb dX7_swap_12 rfl (lv_at hl 1 rfl) ?_
  refine m_get (v := .ref (ma 27)) hx hb hts hinX7 hown hK hM 27 (by decide) lk78 rfl dX7_swap_13 ?_
  refine lv_iload_n hx hb dX7_swap_16 rfl (lv_at hl 3 rfl) ?_
  refine m_iald (x := (σ 27 (ti b))) hx hb hK hM 27 (by decide) rfl (i := b) (n := 6) kb rfl dX7_swap_17 ?_
  refine m_iast hx hb hA hK hM 27 (by decide) rfl (i := a) (n := 6) ka dX7_swap_18 (fun H locs hM => ?_)
  refine lv_aload_n hx hb dX7_swap_19 rfl (lv_at hl 1 rfl) ?_
  refine m_get (v := .ref (ma 27)) hx hb hts hinX7 hown hK hM 27 (by decide) lk78 rfl dX7_swap_20 ?_
  refine lv_iload_n hx hb dX7_swap_23 rfl (lv_at hl 3 rfl) ?_
  refine lv_iload_n hx hb dX7_swap_24 rfl (lv_at hl 0 rfl) ?_
  refine m_iast hx hb hA hK hM 27 (by decide) rfl (i := b) (n := 6) kb dX7_swap_25 (fun H locs hM => ?_)
  exact W.vret hx hb hr (fun t ht hW => ⟨rfl, by rw [ht]; exact (hM.cg (sw_up _ _ _)).1, by rw [ht]; exact hM.2.1, fun q hq => by rw [ht]; exact hM.2.2.1 q hq⟩) hM.2.2.2 dX7_swap_26
set_option maxHeartbeats 4000000 in
set_option maxRecDepth 100000 in
theorem k_isNext (la : Launch) (g : EG) (lo : Nat) (ma : Nat → Nat) (hA : MA lo ma) (σ : Sg) (u : Nat → Int64) (n : Int32) (N : Nat) (hN : N ≤ 6) (hn : n = nI N) : Met la yX7_isNext wsX7_isNext ({ frames := 1, cells := 0, slots := 0, locals := 23 } : Room) (va_Pc [.ref (ma 0), .int n] (fun U => MR g ma σ u U.heap ∧ KK g U)) (QM (.returned (some (.int (if ¬ pvG lsI (σ 27) (N - 1) = 0 then 1 else 0)))) (fun H1 => MR g ma (F_isNext σ N) u H1) (mown ma)) 0 0 (fun q => lo ≤ q) := by
  refine Met.ofW (cc := cX7_isNext) (maxL := 6) (ret := (some .boolean)) (by decide) rfl ?_
  intro p e s m args below meth c s₁ B hml hv
  obtain ⟨rfl, hR0, hK⟩ := hv
  have hx := B.exec
  have hb := B.bytes
  have hr := B.returns
  have hts := atoms_spec (ws := wsX7_isNext) B.pre
  have hown : s.vm.findClass RX7 = some m.cls := findClass_of_methodNamed B.named
  have hlocks := B.notSynchronized
  have hM : MS g lo ma σ u s.heap s.heap [] := MS.start hR0
  have hinX7 : ∀ w ∈ wsX70, w ∈ wsX7_isNext := by decide +kernel
  have lk78 := hts (.fieldLink RX7 78 "DyehouseLedgerModel" "row" "[I") (by decide +kernel)
  have hl := lv_entry ([.ref (ma 0), .int n]) (n := 6) (Nat.le_of_ble_eq_true rfl)
  rw [lg_entry_eq]
  generalize (lg_sl ([.ref (ma 0), .int n]) ++ List.replicate (6 - (lg_sl ([.ref (ma 0), .int n])).length) Slot.unset).toArray = ls at hl ⊢
  have hl : lv_has ls 6 [(0, .ref (ma 0)), (1, .int n)] := hl
  refine lv_iload_n hx hb dX7_isNext_0 rfl (lv_at hl 1 rfl) ?_
  refine lv_iconst (v := 2) hx hb dX7_isNext_1 (by decide) ?_
  refine lv_isub hx hb dX7_isNext_2 ?_
  refine lv_istore_n (lv' := [(2, .int (n - 2)), (0, .ref (ma 0)), (1, .int n)]) hx hb dX7_isNext_3 rfl hl (by decide) rfl (fun ls hl => ?_)
  have lp4 : ∀ (n9 : Nat) (z : Nat), (z ≤ N) → (pvG lsI (σ 27) (N - 1) = pvG lsI (σ 27) (z - 1)) → z < n9 → ∀ (H : Heap) (locs : List Loc), MS g lo ma σ u s.heap H locs → ∀ (ls : Array Slot), lv_has ls 6 [(0, .ref (ma 0)), (1, .int n), (2, .int (nI z - 2))] → W p la e ({ frames := 1, cells := 0, slots := 0, locals := 23 } : Room) s m ([.ref (ma 0), .int n] : List Value).toArray below meth c H locs 0 0 (MQ below (QM (.returned (some (.int (if ¬ pvG lsI (σ 27) (N - 1) = 0 then 1 else 0)))) (fun H1 => MR g ma (F_isNext σ N) u H1) (mown ma)) ([.ref (ma 0), .int n] : List Value).toArray s 0 0 (fun q => lo ≤ q)) (F0 m 4 ls []) := by
    intro n9_4
    induction n9_4 with
    | zero => intro z _ _ h9 ; exact absurd h9 (Nat.not_lt_zero _)
    | succ n9_4 ih_4 =>
      intro z hz hT h9 H locs hM ls hl
      refine lv_iload_n hx hb dX7_isNext_4 rfl (lv_at hl 2 rfl) ?_
      refine lv_if_lt (tgt := 31) hx hb dX7_isNext_5 (by decide) (fun c_1 => ?_) (fun c_1 => ?_)
      · have hm1 : z ≤ 1 := isx_lt (by omega) c_1
        have hP : pvG lsI (σ 27) (N - 1) = 0 := by rw [hT, show z - 1 = 0 by omega]; rfl
        refine lv_iload_n hx hb dX7_isNext_31 rfl (lv_at hl 2 rfl) ?_
        refine lv_if_ge (tgt := 37) hx hb dX7_isNext_32 (by decide) (fun c_2 => ?_) (fun c_2 => ?_)
        · replace c_2 := Int32.not_lt.mpr c_2
          exact absurd c_1 c_2
        · replace c_2 := Int32.not_le.mp c_2
          refine lv_iconst (v := 0) hx hb dX7_isNext_35 (by decide) ?_
          exact W.zret (v := 0) hx hb hr rfl (fun t ht hW => ⟨congrArg (fun z => Outcome.returned (some (Value.int z))) (if_neg (fun q9 => q9 hP)).symm, by rw [ht]; exact (hM.cg (show σ = F_isNext σ N from (if_pos hP).symm)).1, by rw [ht]; exact hM.2.1, fun q hq => by rw [ht]; exact hM.2.2.1 q hq⟩) hM.2.2.2 dX7_isNext_36
      · obtain ⟨q, rfl⟩ := isx_ge c_1
        rw [isx_e q] at hl
        refine lv_aload_n hx hb dX7_isNext_8 rfl (lv_at hl 0 rfl) ?_
        refine m_get (v := .ref (ma 27)) hx hb hts hinX7 hown hK hM 27 (by decide) lk78 rfl dX7_isNext_9 ?_
        refine lv_iload_n hx hb dX7_isNext_12 rfl (lv_at hl 2 rfl) ?_
        refine m_iald (x := (σ 27 q)) hx hb hK hM 27 (by decide) rfl (i := (nI q)) (n := 6) (vin_nI (by omega) (by decide)) (congrArg (σ 27) (ti_nI (by omega))) dX7_isNext_13 ?_
        refine lv_aload_n hx hb dX7_isNext_14 rfl (lv_at hl 0 rfl) ?_
        refine m_get (v := .ref (ma 27)) hx hb hts hinX7 hown hK hM 27 (by decide) lk78 rfl dX7_isNext_15 ?_
        refine lv_iload_n hx hb dX7_isNext_18 rfl (lv_at hl 2 rfl) ?_
        refine lv_iconst (v := 1) hx hb dX7_isNext_19 (by decide) ?_
        refine lv_iadd hx hb dX7_isNext_20 ?_
        refine m_iald (x := (σ 27 (q + 1))) hx hb hK hM 27 (by decide) rfl (i := ((nI q) + 1)) (n := 6) (by rw [nI_1]; exact vin_nI (by omega) (by decide)) (congrArg (σ 27) (by rw [nI_1]; exact ti_nI (by omega))) dX7_isNext_21 ?_
        refine lv_icmp_le (tgt := 31) hx hb dX7_isNext_22 (by decide) (fun c_3 => ?_) (fun c_3 => ?_)
        · replace c_3 := Int32.not_lt.mpr c_3
          have hqq := c_3
          have hP : pvG lsI (σ 27) (N - 1) = q + 1 := hT.trans (pvG_t c_3)
          refine lv_iload_n hx hb dX7_isNext_31 rfl (lv_at hl 2 rfl) ?_
          refine lv_if_ge (tgt := 37) hx hb dX7_isNext_32 (by decide) (fun c_4 => ?_) (fun c_4 => ?_)
          · replace c_4 := Int32.not_lt.mpr c_4
            refine lv_iload_n hx hb dX7_isNext_37 rfl (lv_at hl 1 rfl) ?_
            refine lv_iconst (v := 1) hx hb dX7_isNext_38 (by decide) ?_
            refine lv_isub hx hb dX7_isNext_39 ?_
            refine lv_istore_n (lv' := [(3, .int (n - 1)), (0, .ref (ma 0)), (1, .int n), (2, .int (nI q))]) hx hb dX7_isNext_40 rfl hl (by decide) rfl (fun ls hl => ?_)
            have lp41 : ∀ (n9 : Nat) (j : Nat), (q + 1 ≤ j) → (j < N) → (otG lsI (σ 27) (σ 27 q) (N - 1) = otG lsI (σ 27) (σ 27 q) j) → j < n9 → ∀ (H : Heap) (locs : List Loc), MS g lo ma σ u s.heap H locs → ∀ (ls : Array Slot), lv_has ls 6 [(0, .ref (ma 0)), (1, .int n), (2, .int (nI q)), (3, .int (nI j))] → W p la e ({ frames := 1, cells := 0, slots := 0, locals := 23 } : Room) s m ([.ref (ma 0), .int n] : List Value).toArray below meth c H locs 0 0 (MQ below (QM (.returned (some (.int (if ¬ pvG lsI (σ 27) (N - 1) = 0 then 1 else 0)))) (fun H1 => MR g ma (F_isNext σ N) u H1) (mown ma)) ([.ref (ma 0), .int n] : List Value).toArray s 0 0 (fun q => lo ≤ q)) (F0 m 41 ls []) := by
              intro n9_41
              induction n9_41 with
              | zero => intro j _ _ _ h9 ; exact absurd h9 (Nat.not_lt_zero _)
              | succ n9_41 ih_41 =>
                intro j hj hj2 hO h9 H locs hM ls hl
                refine lv_aload_n hx hb dX7_isNext_41 rfl (lv_at hl 0 rfl) ?_
                refine m_get (v := .ref (ma 27)) hx hb hts hinX7 hown hK hM 27 (by decide) lk78 rfl dX7_isNext_42 ?_
                refine lv_iload_n hx hb dX7_isNext_45 rfl (lv_at hl 3 rfl) ?_
                refine m_iald (x := (σ 27 j)) hx hb hK hM 27 (by decide) rfl (i := (nI j)) (n := 6) (vin_nI (by omega) (by decide)) (congrArg (σ 27) (ti_nI (by omega))) dX7_isNext_46 ?_
                refine lv_aload_n hx hb dX7_isNext_47 rfl (lv_at hl 0 rfl) ?_
                refine m_get (v := .ref (ma 27)) hx hb hts hinX7 hown hK hM 27 (by decide) lk78 rfl dX7_isNext_48 ?_
                refine lv_iload_n hx hb dX7_isNext_51 rfl (lv_at hl 2 rfl) ?_
                refine m_iald (x := (σ 27 q)) hx hb hK hM 27 (by decide) rfl (i := (nI q)) (n := 6) (vin_nI (by omega) (by decide)) (congrArg (σ 27) (ti_nI (by omega))) dX7_isNext_52 ?_
                refine lv_icmp_ge (tgt := 62) hx hb dX7_isNext_53 (by decide) (fun c_5 => ?_) (fun c_5 => ?_)
                · replace c_5 := Int32.not_lt.mpr c_5
                  have hO2 : otG lsI (σ 27) (σ 27 q) (N - 1) = j := hO.trans (otG_t (by omega) c_5)
                  refine lv_aload_n hx hb dX7_isNext_62 rfl (lv_at hl 0 rfl) ?_
                  refine lv_iload_n hx hb dX7_isNext_63 rfl (lv_at hl 2 rfl) ?_
                  refine lv_iload_n hx hb dX7_isNext_64 rfl (lv_at hl 3 rfl) ?_
                  refine mc_mu (n := 2) (As := [.int (nI q), .int (nI j)]) (rest := []) (v := []) ⟨hx, hb, hml, hown, hts⟩ hK hM (k_swap la g lo ma hA σ u (nI q) (nI j) (vin_nI (by omega) (by decide)) (vin_nI (by omega) (by decide))) gX7_isNext_X7_swap rfl rfl rfl (by decide +kernel) ⟨Nat.le_of_ble_eq_true rfl, Nat.le_of_ble_eq_true rfl⟩ rfl hl.1 rfl (Nat.le_of_ble_eq_true rfl) dX7_isNext_65 ⟨Nat.zero_le _, Nat.zero_le _⟩ rfl (fun H locs hM => ?_)
                  refine lv_iload_n hx hb dX7_isNext_68 rfl (lv_at hl 2 rfl) ?_
                  refine lv_iconst (v := 1) hx hb dX7_isNext_69 (by decide) ?_
                  refine lv_iadd hx hb dX7_isNext_70 ?_
                  refine lv_istore (lv' := [(4, .int ((nI q) + 1)), (0, .ref (ma 0)), (1, .int n), (2, .int (nI q)), (3, .int (nI j))]) hx hb dX7_isNext_71 hl (by decide) rfl (fun ls hl => ?_)
                  refine lv_iload_n hx hb dX7_isNext_73 rfl (lv_at hl 2 rfl) ?_
                  refine lv_iconst (v := 1) hx hb dX7_isNext_74 (by decide) ?_
                  refine lv_isub hx hb dX7_isNext_75 ?_
                  refine lv_istore (lv' := [(5, .int (n - 1)), (4, .int ((nI q) + 1)), (0, .ref (ma 0)), (1, .int n), (2, .int (nI q)), (3, .int (nI j))]) hx hb dX7_isNext_76 hl (by decide) rfl (fun ls hl => ?_)
                  have lp78 : ∀ (n9 : Nat) (a : Nat) (b : Nat) (d : Nat) (f : Nat → Int32), (b < N) → (a ≤ N) → (b ≤ a + d) → (rvG d f a b = nxG lsI (σ 27) N) → d < n9 → ∀ (H : Heap) (locs : List Loc), MS g lo ma (rw27 σ f) u s.heap H locs → ∀ (ls : Array Slot), lv_has ls 6 [(0, .ref (ma 0)), (4, .int (nI a)), (5, .int (nI b))] → W p la e ({ frames := 1, cells := 0, slots := 0, locals := 23 } : Room) s m ([.ref (ma 0), .int n] : List Value).toArray below meth c H locs 0 0 (MQ below (QM (.returned (some (.int (if ¬ pvG lsI (σ 27) (N - 1) = 0 then 1 else 0)))) (fun H1 => MR g ma (F_isNext σ N) u H1) (mown ma)) ([.ref (ma 0), .int n] : List Value).toArray s 0 0 (fun q => lo ≤ q)) (F0 m 78 ls []) := by
                    intro n9_78
                    induction n9_78 with
                    | zero => intro a b d f _ _ _ _ h9 ; exact absurd h9 (Nat.not_lt_zero _)
                    | succ n9_78 ih_78 =>
                      intro a b d f hb1 ha9 hd hR h9 H locs hM ls hl
                      refine lv_iload hx hb dX7_isNext_78 (lv_at hl 1 rfl) ?_
                      refine lv_iload hx hb dX7_isNext_80 (lv_at hl 2 rfl) ?_
                      refine lv_icmp_ge (tgt := 102) hx hb dX7_isNext_82 (by decide) (fun c_6 => ?_) (fun c_6 => ?_)
                      · replace c_6 := Int32.not_lt.mpr c_6
                        have hR2 : f = nxG lsI (σ 27) N := (rvG_n (fun q9 => c_6 ((nI_ltI (by omega) (by omega)).mpr q9))).symm.trans hR
                        refine lv_iconst (v := 1) hx hb dX7_isNext_102 (by decide) ?_
                        exact W.zret (v := 1) hx hb hr rfl (fun t ht hW => ⟨congrArg (fun z => Outcome.returned (some (Value.int z))) (if_pos (by rw [hP]; exact Nat.succ_ne_zero _)).symm, by rw [ht]; exact (hM.cg (show (rw27 σ f) = F_isNext σ N from by rw [hR2]; exact (if_neg (by rw [hP]; exact Nat.succ_ne_zero _)).symm)).1, by rw [ht]; exact hM.2.1, fun q hq => by rw [ht]; exact hM.2.2.1 q hq⟩) hM.2.2.2 dX7_isNext_103
                      · replace c_6 := Int32.not_le.mp c_6
                        have hab : a < b := (nI_ltI (by omega) (by omega)).mp c_6
                        obtain ⟨d9, rfl⟩ : ∃ d9, d = d9 + 1 := ⟨d - 1, by omega⟩
                        have hR3 := (rvG_y hab).symm.trans hR
                        refine lv_aload_n hx hb dX7_isNext_85 rfl (lv_at hl 0 rfl) ?_
                        refine lv_iload hx hb dX7_isNext_86 (lv_at hl 1 rfl) ?_
                        refine lv_iload hx hb dX7_isNext_88 (lv_at hl 2 rfl) ?_
                        refine mc_mu (n := 2) (As := [.int (nI a), .int (nI b)]) (rest := []) (v := []) ⟨hx, hb, hml, hown, hts⟩ hK hM (k_swap la g lo ma hA (rw27 σ f) u (nI a) (nI b) (vin_nI (by omega) (by decide)) (vin_nI (by omega) (by decide))) gX7_isNext_X7_swap rfl rfl rfl (by decide +kernel) ⟨Nat.le_of_ble_eq_true rfl, Nat.le_of_ble_eq_true rfl⟩ rfl hl.1 rfl (Nat.le_of_ble_eq_true rfl) dX7_isNext_90 ⟨Nat.zero_le _, Nat.zero_le _⟩ rfl (fun H locs hM => ?_)
                        refine lv_iinc (v := ((nI a) + 1)) (lv' := [(4, .int ((nI a) + 1)), (0, .ref (ma 0)), (5, .int (nI b))]) hx hb dX7_isNext_93 hl (k := 1) rfl rfl (by decide) rfl (fun ls hl => ?_)
                        refine lv_iinc (v := ((nI b) + (-1))) (lv' := [(5, .int ((nI b) + (-1))), (4, .int ((nI a) + 1)), (0, .ref (ma 0))]) hx hb dX7_isNext_96 hl (k := 2) rfl rfl (by decide) rfl (fun ls hl => ?_)
                        refine lv_goto (tgt := 78) hx hb dX7_isNext_99 (by decide) ?_
                        have e_7 : ((nI (a + 1)) : Int32) = ((nI a) + 1) := (nI_1 a).symm
                        have e_8 : ((nI (b - 1)) : Int32) = ((nI b) + (-1)) := (isx_p (by omega))
                        have hl2 : lv_has ls 6 [(0, .ref (ma 0)), (4, .int (nI (a + 1))), (5, .int (nI (b - 1)))] := by
                          rw [e_7, e_8]
                          exact lv_sub hl [2, 1, 0] rfl
                        have hM2 := hM.cg ((show (rw27 (rw27 σ f) (swG ((rw27 σ f) 27) (ti (nI a)) (ti (nI b)))) = (rw27 σ (swG f a b)) from by rw [ti_nI (by omega), ti_nI (by omega), rw27_2, rw27_27]))
                        exact ih_78 (a + 1) (b - 1) (d9) ((swG f a b)) (by omega) (by omega) (by omega) hR3 (by omega) _ _ hM2 ls hl2
                  have e_9 : ((nI (q + 1)) : Int32) = ((nI q) + 1) := (nI_1 q).symm
                  have e_10 : ((nI (N - 1)) : Int32) = (n - 1) := (by rw [hn]; exact isx_1 (by omega))
                  have hl2 : lv_has ls 6 [(0, .ref (ma 0)), (4, .int (nI (q + 1))), (5, .int (nI (N - 1)))] := by
                    rw [e_9, e_10]
                    exact lv_sub hl [2, 1, 0] rfl
                  have hM2 := hM.cg ((show (rw27 σ (swG (σ 27) (ti (nI q)) (ti (nI j)))) = (rw27 σ (swG (σ 27) q j)) from by rw [ti_nI (by omega), ti_nI (by omega)]))
                  exact lp78 (N + 1) (q + 1) (N - 1) (N) ((swG (σ 27) q j)) (by omega) (by omega) (by omega) (by unfold nxG; rw [hP, Nat.add_sub_cancel, hO2]) (Nat.lt_succ_self _) _ _ hM2 ls hl2
                · replace c_5 := Int32.not_le.mp c_5
                  have hjq : j ≠ q + 1 := by rintro rfl; exact hqq c_5
                  have hO3 := hO.trans (otG_s (by omega) c_5)
                  refine lv_iinc (v := ((nI j) + (-1))) (lv' := [(3, .int ((nI j) + (-1))), (0, .ref (ma 0)), (1, .int n), (2, .int (nI q))]) hx hb dX7_isNext_56 hl (k := 3) rfl rfl (by decide) rfl (fun ls hl => ?_)
                  refine lv_goto (tgt := 41) hx hb dX7_isNext_59 (by decide) ?_
                  have e_11 : ((nI (j - 1)) : Int32) = ((nI j) + (-1)) := (isx_p (by omega))
                  have hl2 : lv_has ls 6 [(0, .ref (ma 0)), (1, .int n), (2, .int (nI q)), (3, .int (nI (j - 1)))] := by
                    rw [e_11]
                    exact lv_sub hl [1, 2, 3, 0] rfl
                  exact ih_41 (j - 1) (by omega) (by omega) hO3 (by omega) _ _ hM ls hl2
            have e_12 : ((nI (N - 1)) : Int32) = (n - 1) := (by rw [hn]; exact isx_1 (by omega))
            have hl2 : lv_has ls 6 [(0, .ref (ma 0)), (1, .int n), (2, .int (nI q)), (3, .int (nI (N - 1)))] := by
              rw [e_12]
              exact lv_sub hl [1, 2, 3, 0] rfl
            exact lp41 ((N - 1) + 1) (N - 1) (by omega) (by omega) rfl (Nat.lt_succ_self _) _ _ hM ls hl2
          · replace c_4 := Int32.not_le.mp c_4
            exact absurd c_4 (nI_pos (by omega))
        · replace c_3 := Int32.not_le.mp c_3
          have hT2 : pvG lsI (σ 27) (N - 1) = pvG lsI (σ 27) q := hT.trans (pvG_s c_3)
          refine lv_iinc (v := ((nI q) + (-1))) (lv' := [(2, .int ((nI q) + (-1))), (0, .ref (ma 0)), (1, .int n)]) hx hb dX7_isNext_25 hl (k := 2) rfl rfl (by decide) rfl (fun ls hl => ?_)
          refine lv_goto (tgt := 4) hx hb dX7_isNext_28 (by decide) ?_
          have e_13 : ((nI (q + 1) - 2) : Int32) = ((nI q) + (-1)) := (isx_2 q)
          have hl2 : lv_has ls 6 [(0, .ref (ma 0)), (1, .int n), (2, .int (nI (q + 1) - 2))] := by
            rw [e_13]
            exact lv_sub hl [1, 2, 0] rfl
          exact ih_4 (q + 1) (by omega) hT2 (by omega) _ _ hM ls hl2
  have e_14 : ((nI (N) - 2) : Int32) = (n - 2) := (by rw [hn])
  have hl2 : lv_has ls 6 [(0, .ref (ma 0)), (1, .int n), (2, .int (nI (N) - 2))] := by
    rw [e_14]
    exact lv_sub hl [1, 2, 0] rfl
  exact lp4 (N + 1) (N) (Nat.le_refl _) rfl (Nat.lt_succ_self _) _ _ hM ls hl2
