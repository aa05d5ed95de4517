set_option maxHeartbeats 4000000 in
set_option maxRecDepth 100000 in
theorem k_least (la : Launch) (g : EG) (lo : Nat) (ma : Nat → Nat) (hA : MA lo ma) (σ : Sg) (u : Nat → Int64) (v : Int32) (hI : INV σ) (kv : vp_in v (nV σ)) : Met la yX7_least wsX7_least ({ frames := 2, cells := 0, slots := 0, locals := 48 } : Room) (va_Pc [.ref (ma 0), .int v] (fun U => MR g ma σ u U.heap ∧ KK g U)) (QM (.returned (some (.int (nI (bestP σ v).1)))) (fun H1 => MR g ma (F_least σ v) u H1) (mown ma)) 0 0 (fun q => lo ≤ q) := by
  refine Met.ofW (cc := cX7_least) (maxL := 5) (ret := (some .int)) (by decide) rfl ?_
  intro p e s m args below meth c s₁ B hml hv
  obtain ⟨rfl, hR0, hK⟩ := hv
  have hx := B.exec
  have hb := B.bytes
  have hr := B.returns
  have hts := atoms_spec (ws := wsX7_least) B.pre
  have hown : s.vm.findClass RX7 = some m.cls := findClass_of_methodNamed B.named
  have hlocks := B.notSynchronized
  have hM : MS g lo ma σ u s.heap s.heap [] := MS.start hR0
  have hinX7 : ∀ w ∈ wsX70, w ∈ wsX7_least := by decide +kernel
  have lk78 := hts (.fieldLink RX7 78 "DyehouseLedgerModel" "row" "[I") (by decide +kernel)
  have lk81 := hts (.fieldLink RX7 81 "DyehouseLedgerModel" "taken" "[I") (by decide +kernel)
  have hl := lv_entry ([.ref (ma 0), .int v]) (n := 5) (Nat.le_of_ble_eq_true rfl)
  rw [lg_entry_eq]
  generalize (lg_sl ([.ref (ma 0), .int v]) ++ List.replicate (5 - (lg_sl ([.ref (ma 0), .int v])).length) Slot.unset).toArray = ls at hl ⊢
  have hl : lv_has ls 5 [(0, .ref (ma 0)), (1, .int v)] := hl
  have hN6 := nP_le hI kv
  have hn := (nP_cnt hI v).2
  obtain ⟨B0, hB0⟩ := chk_head hN6
  have hC0 : chkO (nP σ v) (List.range (nP σ v) :: B0) = true := hB0 ▸ chk_ords hN6
  have hrg := okP_of hC0
  refine lv_aload_n hx hb dX7_least_0 rfl (lv_at hl 0 rfl) ?_
  refine lv_iload_n hx hb dX7_least_1 rfl (lv_at hl 1 rfl) ?_
  refine mc_ro (n := 1) (As := [.int v]) (rest := []) (v := [.int (f_inPlan σ v)]) ⟨hx, hb, hml, hown, hts⟩ hK hM (k_inPlan la g ma σ u v hI.1.2.2.1) gX7_least_X7_inPlan rfl rfl rfl (by decide +kernel) ⟨Nat.le_of_ble_eq_true rfl, Nat.le_of_ble_eq_true rfl⟩ rfl hl.1 rfl (Nat.le_of_ble_eq_true rfl) dX7_least_2 ⟨Nat.zero_le _, Nat.zero_le _⟩ rfl ?_
  refine lv_istore_n (lv' := [(2, .int (f_inPlan σ v)), (0, .ref (ma 0)), (1, .int v)]) hx hb dX7_least_5 rfl hl (by decide) rfl (fun ls hl => ?_)
  refine lv_iconst (v := 0) hx hb dX7_least_6 (by decide) ?_
  refine lv_istore_n (lv' := [(3, .int 0), (2, .int (f_inPlan σ v)), (0, .ref (ma 0)), (1, .int v)]) hx hb dX7_least_7 rfl hl (by decide) rfl (fun ls hl => ?_)
  have lp8 : ∀ (n9 : Nat) (k : Nat), (k ≤ nP σ v) → (nP σ v - k) < n9 → ∀ (H : Heap) (locs : List Loc), MS g lo ma (rw27 σ (rowK σ v k)) u s.heap H locs → ∀ (ls : Array Slot), lv_has ls 5 [(0, .ref (ma 0)), (1, .int v), (2, .int (f_inPlan σ v)), (3, .int (nI k))] → W p la e ({ frames := 2, cells := 0, slots := 0, locals := 48 } : Room) s m ([.ref (ma 0), .int v] : List Value).toArray below meth c H locs 0 0 (MQ below (QM (.returned (some (.int (nI (bestP σ v).1)))) (fun H1 => MR g ma (F_least σ v) u H1) (mown ma)) ([.ref (ma 0), .int v] : List Value).toArray s 0 0 (fun q => lo ≤ q)) (F0 m 8 ls []) := by
    intro n9_8
    induction n9_8 with
    | zero => intro k _ h9 ; exact absurd h9 (Nat.not_lt_zero _)
    | succ n9_8 ih_8 =>
      intro k hk h9 H locs hM ls hl
      refine lv_iload_n hx hb dX7_least_8 rfl (lv_at hl 3 rfl) ?_
      refine lv_iload_n hx hb dX7_least_9 rfl (lv_at hl 2 rfl) ?_
      refine lv_icmp_ge (tgt := 31) hx hb dX7_least_10 (by decide) (fun c_1 => ?_) (fun c_1 => ?_)
      · replace c_1 := Int32.not_lt.mpr c_1
        obtain rfl : nP σ v = k := by
          have q9 := mt (nI_ltI (a := k) (b := nP σ v) (by omega) (by omega)).mpr (by rw [← hn]; exact c_1)
          omega
        replace hM := hM.cg (congrArg (rw27 σ) (rowK_N σ v))
        refine lv_aload_n hx hb dX7_least_31 rfl (lv_at hl 0 rfl) ?_
        refine lv_iload_n hx hb dX7_least_32 rfl (lv_at hl 1 rfl) ?_
        refine lv_iload_n hx hb dX7_least_33 rfl (lv_at hl 2 rfl) ?_
        refine mc_ro (n := 2) (As := [.int v, .int (f_inPlan σ v)]) (rest := []) (v := [.int (nI (cstP σ v (List.range (nP σ v))))]) ⟨hx, hb, hml, hown, hts⟩ hK hM (k_lasts la g ma (rw27 σ (rowP σ v (List.range (nP σ v)))) u v (f_inPlan σ v) (show INV (rw27 σ (rowP σ v (List.range (nP σ v)))) from hI) kv (nP σ v) hN6 (P_hr hI hrg) hn) gX7_least_X7_lasts rfl rfl rfl (by decide +kernel) ⟨Nat.le_of_ble_eq_true rfl, Nat.le_of_ble_eq_true rfl⟩ rfl hl.1 rfl (Nat.le_of_ble_eq_true rfl) dX7_least_34 ⟨Nat.zero_le _, Nat.zero_le _⟩ (congrArg (fun z => [Value.int z]) (P_lasts0 hI hrg)) ?_
        refine lv_istore_n (lv' := [(3, .int (nI (cstP σ v (List.range (nP σ v))))), (0, .ref (ma 0)), (1, .int v), (2, .int (f_inPlan σ v))]) hx hb dX7_least_37 rfl hl (by decide) rfl (fun ls hl => ?_)
        refine lv_aload_n hx hb dX7_least_38 rfl (lv_at hl 1 rfl) ?_
        refine m_get (v := .ref (ma 28)) hx hb hts hinX7 hown hK hM 28 (by decide) lk81 rfl dX7_least_39 ?_
        refine lv_iconst (v := 0) hx hb dX7_least_42 (by decide) ?_
        refine lv_iload_n hx hb dX7_least_43 rfl (lv_at hl 3 rfl) ?_
        refine lv_if_le (tgt := 56) hx hb dX7_least_44 (by decide) (fun c_2 => ?_) (fun c_2 => ?_)
        · replace c_2 := Int32.not_lt.mpr c_2
          have hN0 : nP σ v = 0 := Nat.eq_zero_of_not_pos (fun q9 => c_2 (by rw [hn]; exact (nI_ltI (a := 0) (by decide) (by omega)).mpr q9))
          refine lv_iconst (v := (-1)) hx hb dX7_least_56 (by decide) ?_
          refine m_iast hx hb hA hK hM 28 (by decide) rfl (i := 0) (n := 1) (vin_dec (by decide +kernel)) dX7_least_57 (fun H locs hM => ?_)
          rw [ti_0] at hM
          have lp58 : ∀ (n9 : Nat) (p9 : List Nat) (B9 : List (List Nat)) (m9 : Nat) (x9 : Nat), (chkO (nP σ v) (p9 :: B9) = true) → ((p9 :: B9).getLastD [] = lastP σ v) → (B9.foldl (bsP (cstP σ v)) (m9, x9) = bestP σ v) → (m9 ≤ 100) → B9.length < n9 → ∀ (H : Heap) (locs : List Loc), MS g lo ma (up (rw27 σ (rowP σ v p9)) 28 0 (tkP σ v x9)) u s.heap H locs → ∀ (ls : Array Slot), lv_has ls 5 [(0, .ref (ma 0)), (1, .int v), (2, .int (f_inPlan σ v)), (3, .int (nI m9))] → W p la e ({ frames := 2, cells := 0, slots := 0, locals := 48 } : Room) s m ([.ref (ma 0), .int v] : List Value).toArray below meth c H locs 0 0 (MQ below (QM (.returned (some (.int (nI (bestP σ v).1)))) (fun H1 => MR g ma (F_least σ v) u H1) (mown ma)) ([.ref (ma 0), .int v] : List Value).toArray s 0 0 (fun q => lo ≤ q)) (F0 m 58 ls []) := by
            intro n9_58
            induction n9_58 with
            | zero => intro p9 B9 m9 x9 _ _ _ _ h9 ; exact absurd h9 (Nat.not_lt_zero _)
            | succ n9_58 ih_58 =>
              intro p9 B9 m9 x9 hC hE hF hm9 h9 H locs hM ls hl
              refine lv_aload_n hx hb dX7_least_58 rfl (lv_at hl 0 rfl) ?_
              refine lv_iload_n hx hb dX7_least_59 rfl (lv_at hl 2 rfl) ?_
              refine mc_mu (n := 1) (As := [.int (f_inPlan σ v)]) (rest := []) (v := [.int (if ¬ pvG lsI ((up (rw27 σ (rowP σ v p9)) 28 0 (tkP σ v x9)) 27) (nP σ v - 1) = 0 then 1 else 0)]) ⟨hx, hb, hml, hown, hts⟩ hK hM (k_isNext la g lo ma hA (up (rw27 σ (rowP σ v p9)) 28 0 (tkP σ v x9)) u (f_inPlan σ v) (nP σ v) hN6 hn) gX7_least_X7_isNext rfl rfl rfl (by decide +kernel) ⟨Nat.le_of_ble_eq_true rfl, Nat.le_of_ble_eq_true rfl⟩ rfl hl.1 rfl (Nat.le_of_ble_eq_true rfl) dX7_least_60 ⟨Nat.zero_le _, Nat.zero_le _⟩ rfl (fun H locs hM => ?_)
              refine br_if_eq (c9 := ¬ pvG lsI ((up (rw27 σ (rowP σ v p9)) 28 0 (tkP σ v x9)) 27) (nP σ v - 1) = 0) (tgt := 101) hx hb dX7_least_63 (by decide) (fun c_3 => ?_) (fun c_3 => ?_)
              · replace c_3 := Decidable.not_not.mp c_3
                have hB : B9 = [] := P_end hI hC c_3
                subst hB
                have hF : (m9, x9) = bestP σ v := hF
                refine lv_iload_n hx hb dX7_least_101 rfl (lv_at hl 3 rfl) ?_
                exact W.iret (v := (nI m9)) hx hb hr (fun t ht hW => ⟨congrArg (fun z => Outcome.returned (some (Value.int z))) (by rw [← hF]), by rw [ht]; exact (hM.cg (show F_isNext (up (rw27 σ (rowP σ v p9)) 28 0 (tkP σ v x9)) (nP σ v) = F_least σ v from by rw [F_isNext_no c_3]; unfold F_least; rw [← hF, ← hE]; rfl)).1, by rw [ht]; exact hM.2.1, fun q hq => by rw [ht]; exact hM.2.2.1 q hq⟩) hM.2.2.2 dX7_least_102
              · obtain ⟨q9, L9, rfl⟩ := P_more hI hC c_3
                replace hM := hM.cg (P_next hI hC c_3)
                have hC2 := chkO_tl hC
                have hq9 := okP_of hC2
                have hp9 := okP_of hC
                have hN0 : nP σ v ≠ 0 := fun q8 => c_3 (by rw [q8]; rfl)
                have hcq := cstP_le hI kv hq9
                have hlen : (q9 :: L9).length = L9.length + 1 := rfl
                refine lv_aload_n hx hb dX7_least_66 rfl (lv_at hl 0 rfl) ?_
                refine lv_iload_n hx hb dX7_least_67 rfl (lv_at hl 1 rfl) ?_
                refine lv_iload_n hx hb dX7_least_68 rfl (lv_at hl 2 rfl) ?_
                refine mc_ro (n := 2) (As := [.int v, .int (f_inPlan σ v)]) (rest := []) (v := [.int (nI (cstP σ v q9))]) ⟨hx, hb, hml, hown, hts⟩ hK hM (k_lasts la g ma (up (rw27 σ (rowP σ v q9)) 28 0 (tkP σ v x9)) u v (f_inPlan σ v) (show INV (up (rw27 σ (rowP σ v q9)) 28 0 (tkP σ v x9)) from hI) kv (nP σ v) hN6 (P_hr hI hq9) hn) gX7_least_X7_lasts rfl rfl rfl (by decide +kernel) ⟨Nat.le_of_ble_eq_true rfl, Nat.le_of_ble_eq_true rfl⟩ rfl hl.1 rfl (Nat.le_of_ble_eq_true rfl) dX7_least_69 ⟨Nat.zero_le _, Nat.zero_le _⟩ (congrArg (fun z => [Value.int z]) (P_lasts hI hq9 _)) ?_
                refine lv_istore (lv' := [(4, .int (nI (cstP σ v q9))), (0, .ref (ma 0)), (1, .int v), (2, .int (f_inPlan σ v)), (3, .int (nI m9))]) hx hb dX7_least_72 hl (by decide) rfl (fun ls hl => ?_)
                refine lv_iload hx hb dX7_least_74 (lv_at hl 0 rfl) ?_
                refine lv_iload_n hx hb dX7_least_76 rfl (lv_at hl 4 rfl) ?_
                refine lv_icmp_lt (tgt := 83) hx hb dX7_least_77 (by decide) (fun c_4 => ?_) (fun c_4 => ?_)
                · have hlt := (nI_ltI (by omega) (by omega)).mp c_4
                  refine lv_iload hx hb dX7_least_83 (lv_at hl 0 rfl) ?_
                  refine lv_istore_n (lv' := [(3, .int (nI (cstP σ v q9))), (4, .int (nI (cstP σ v q9))), (0, .ref (ma 0)), (1, .int v), (2, .int (f_inPlan σ v))]) hx hb dX7_least_85 rfl hl (by decide) rfl (fun ls hl => ?_)
                  refine lv_aload_n hx hb dX7_least_86 rfl (lv_at hl 2 rfl) ?_
                  refine m_get (v := .ref (ma 28)) hx hb hts hinX7 hown hK hM 28 (by decide) lk81 rfl dX7_least_87 ?_
                  refine lv_iconst (v := 0) hx hb dX7_least_90 (by decide) ?_
                  refine lv_aload_n hx hb dX7_least_91 rfl (lv_at hl 2 rfl) ?_
                  refine m_get (v := .ref (ma 27)) hx hb hts hinX7 hown hK hM 27 (by decide) lk78 rfl dX7_least_92 ?_
                  refine lv_iconst (v := 0) hx hb dX7_least_95 (by decide) ?_
                  refine m_iald (x := (bP σ v (pF q9 0))) hx hb hK hM 27 (by decide) rfl (i := 0) (n := 6) (vin_dec (by decide +kernel)) (by rw [ti_0]; exact if_pos (Nat.pos_of_ne_zero hN0)) dX7_least_96 ?_
                  refine m_iast hx hb hA hK hM 28 (by decide) rfl (i := 0) (n := 1) (vin_dec (by decide +kernel)) dX7_least_97 (fun H locs hM => ?_)
                  rw [ti_0] at hM
                  refine lv_goto (tgt := 58) hx hb dX7_least_98 (by decide) ?_
                  have e_5 : ((nI ((cstP σ v q9))) : Int32) = (nI (cstP σ v q9)) := (by first | rfl | (simp [-Int32.not_lt, -Int32.not_le, okL, okV, okO, okR, okD, isP, shP, hk, c_1, c_2, hC, hE, hF, hm9, c_3, c_4]; done) | (simp_all [-Int32.not_lt, -Int32.not_le, okL, okV, okO, okR, okD, isP, shP]; done))
                  have hl2 : lv_has ls 5 [(0, .ref (ma 0)), (1, .int v), (2, .int (f_inPlan σ v)), (3, .int (nI ((cstP σ v q9))))] := by
                    rw [e_5]
                    exact lv_sub hl [2, 3, 4, 0] rfl
                  have hM2 := hM.cg ((show (up (up (rw27 σ (rowP σ v q9)) 28 0 (tkP σ v x9)) 28 0 (bP σ v (pF q9 0))) = (up (rw27 σ (rowP σ v q9)) 28 0 (tkP σ v (pF q9 0))) from by rw [up_up, show tkP σ v (pF q9 0) = bP σ v (pF q9 0) from if_neg hN0]))
                  exact ih_58 (q9) (L9) ((cstP σ v q9)) ((pF q9 0)) hC2 hE (by first | exact bs_lt hF hlt | exact bs_ge hF hge) (by first | exact hcq | exact hm9) (by omega) _ _ hM2 ls hl2
                · have hge : ¬ cstP σ v q9 < m9 := fun q8 => c_4 ((nI_ltI (by omega) (by omega)).mpr q8)
                  refine lv_goto (tgt := 58) hx hb dX7_least_80 (by decide) ?_
                  have e_6 : ((nI (m9)) : Int32) = (nI m9) := (by first | rfl | (simp [-Int32.not_lt, -Int32.not_le, okL, okV, okO, okR, okD, isP, shP, hk, c_1, c_2, hC, hE, hF, hm9, c_3, c_4]; done) | (simp_all [-Int32.not_lt, -Int32.not_le, okL, okV, okO, okR, okD, isP, shP]; done))
                  have hl2 : lv_has ls 5 [(0, .ref (ma 0)), (1, .int v), (2, .int (f_inPlan σ v)), (3, .int (nI (m9)))] := by
                    rw [e_6]
                    exact lv_sub hl [1, 2, 3, 4] rfl
                  have hM2 := hM.cg ((show (up (rw27 σ (rowP σ v q9)) 28 0 (tkP σ v x9)) = (up (rw27 σ (rowP σ v q9)) 28 0 (tkP σ v x9)) from rfl))
                  exact ih_58 (q9) (L9) (m9) (x9) hC2 hE (by first | exact bs_lt hF hlt | exact bs_ge hF hge) (by first | exact hcq | exact hm9) (by omega) _ _ hM2 ls hl2
          have e_7 : ((nI ((cstP σ v (List.range (nP σ v))))) : Int32) = (nI (cstP σ v (List.range (nP σ v)))) := (by first | rfl | (simp [-Int32.not_lt, -Int32.not_le, okL, okV, okO, okR, okD, isP, shP, hk, c_1, c_2]; done) | (simp_all [-Int32.not_lt, -Int32.not_le, okL, okV, okO, okR, okD, isP, shP]; done))
          have hl2 : lv_has ls 5 [(0, .ref (ma 0)), (1, .int v), (2, .int (f_inPlan σ v)), (3, .int (nI ((cstP σ v (List.range (nP σ v))))))] := by
            rw [e_7]
            exact lv_sub hl [1, 2, 3, 0] rfl
          have hM2 := hM.cg ((show (up (rw27 σ (rowP σ v (List.range (nP σ v)))) 28 0 (-1)) = (up (rw27 σ (rowP σ v (List.range (nP σ v)))) 28 0 (tkP σ v (pF (List.range (nP σ v)) 0))) from by rw [show tkP σ v (pF (List.range (nP σ v)) 0) = -1 from if_pos hN0]))
          exact lp58 (B0.length + 1) ((List.range (nP σ v))) (B0) ((cstP σ v (List.range (nP σ v)))) ((pF (List.range (nP σ v)) 0)) hC0 (by unfold lastP; rw [hB0]) (by unfold bestP; rw [hB0]; rfl) (cstP_le hI kv hrg) (Nat.lt_succ_self _) _ _ hM2 ls hl2
        · replace c_2 := Int32.not_le.mp c_2
          have hN0 : nP σ v ≠ 0 := fun q9 => by rw [hn, q9] at c_2; exact absurd c_2 (by decide)
          refine lv_aload_n hx hb dX7_least_47 rfl (lv_at hl 1 rfl) ?_
          refine m_get (v := .ref (ma 27)) hx hb hts hinX7 hown hK hM 27 (by decide) lk78 rfl dX7_least_48 ?_
          refine lv_iconst (v := 0) hx hb dX7_least_51 (by decide) ?_
          refine m_iald (x := (bP σ v (pF (List.range (nP σ v)) 0))) hx hb hK hM 27 (by decide) rfl (i := 0) (n := 6) (vin_dec (by decide +kernel)) (by rw [ti_0]; exact if_pos (Nat.pos_of_ne_zero hN0)) dX7_least_52 ?_
          refine lv_goto (tgt := 57) hx hb dX7_least_53 (by decide) ?_
          refine m_iast hx hb hA hK hM 28 (by decide) rfl (i := 0) (n := 1) (vin_dec (by decide +kernel)) dX7_least_57 (fun H locs hM => ?_)
          rw [ti_0] at hM
          have lp58 : ∀ (n9 : Nat) (p9 : List Nat) (B9 : List (List Nat)) (m9 : Nat) (x9 : Nat), (chkO (nP σ v) (p9 :: B9) = true) → ((p9 :: B9).getLastD [] = lastP σ v) → (B9.foldl (bsP (cstP σ v)) (m9, x9) = bestP σ v) → (m9 ≤ 100) → B9.length < n9 → ∀ (H : Heap) (locs : List Loc), MS g lo ma (up (rw27 σ (rowP σ v p9)) 28 0 (tkP σ v x9)) u s.heap H locs → ∀ (ls : Array Slot), lv_has ls 5 [(0, .ref (ma 0)), (1, .int v), (2, .int (f_inPlan σ v)), (3, .int (nI m9))] → W p la e ({ frames := 2, cells := 0, slots := 0, locals := 48 } : Room) s m ([.ref (ma 0), .int v] : List Value).toArray below meth c H locs 0 0 (MQ below (QM (.returned (some (.int (nI (bestP σ v).1)))) (fun H1 => MR g ma (F_least σ v) u H1) (mown ma)) ([.ref (ma 0), .int v] : List Value).toArray s 0 0 (fun q => lo ≤ q)) (F0 m 58 ls []) := by
            intro n9_58
            induction n9_58 with
            | zero => intro p9 B9 m9 x9 _ _ _ _ h9 ; exact absurd h9 (Nat.not_lt_zero _)
            | succ n9_58 ih_58 =>
              intro p9 B9 m9 x9 hC hE hF hm9 h9 H locs hM ls hl
              refine lv_aload_n hx hb dX7_least_58 rfl (lv_at hl 0 rfl) ?_
              refine lv_iload_n hx hb dX7_least_59 rfl (lv_at hl 2 rfl) ?_
              refine mc_mu (n := 1) (As := [.int (f_inPlan σ v)]) (rest := []) (v := [.int (if ¬ pvG lsI ((up (rw27 σ (rowP σ v p9)) 28 0 (tkP σ v x9)) 27) (nP σ v - 1) = 0 then 1 else 0)]) ⟨hx, hb, hml, hown, hts⟩ hK hM (k_isNext la g lo ma hA (up (rw27 σ (rowP σ v p9)) 28 0 (tkP σ v x9)) u (f_inPlan σ v) (nP σ v) hN6 hn) gX7_least_X7_isNext rfl rfl rfl (by decide +kernel) ⟨Nat.le_of_ble_eq_true rfl, Nat.le_of_ble_eq_true rfl⟩ rfl hl.1 rfl (Nat.le_of_ble_eq_true rfl) dX7_least_60 ⟨Nat.zero_le _, Nat.zero_le _⟩ rfl (fun H locs hM => ?_)
              refine br_if_eq (c9 := ¬ pvG lsI ((up (rw27 σ (rowP σ v p9)) 28 0 (tkP σ v x9)) 27) (nP σ v - 1) = 0) (tgt := 101) hx hb dX7_least_63 (by decide) (fun c_8 => ?_) (fun c_8 => ?_)
              · replace c_8 := Decidable.not_not.mp c_8
                have hB : B9 = [] := P_end hI hC c_8
                subst hB
                have hF : (m9, x9) = bestP σ v := hF
                refine lv_iload_n hx hb dX7_least_101 rfl (lv_at hl 3 rfl) ?_
                exact W.iret (v := (nI m9)) hx hb hr (fun t ht hW => ⟨congrArg (fun z => Outcome.returned (some (Value.int z))) (by rw [← hF]), by rw [ht]; exact (hM.cg (show F_isNext (up (rw27 σ (rowP σ v p9)) 28 0 (tkP σ v x9)) (nP σ v) = F_least σ v from by rw [F_isNext_no c_8]; unfold F_least; rw [← hF, ← hE]; rfl)).1, by rw [ht]; exact hM.2.1, fun q hq => by rw [ht]; exact hM.2.2.1 q hq⟩) hM.2.2.2 dX7_least_102
              · obtain ⟨q9, L9, rfl⟩ := P_more hI hC c_8
                replace hM := hM.cg (P_next hI hC c_8)
                have hC2 := chkO_tl hC
                have hq9 := okP_of hC2
                have hp9 := okP_of hC
                have hN0 : nP σ v ≠ 0 := fun q8 => c_8 (by rw [q8]; rfl)
                have hcq := cstP_le hI kv hq9
                have hlen : (q9 :: L9).length = L9.length + 1 := rfl
                refine lv_aload_n hx hb dX7_least_66 rfl (lv_at hl 0 rfl) ?_
                refine lv_iload_n hx hb dX7_least_67 rfl (lv_at hl 1 rfl) ?_
                refine lv_iload_n hx hb dX7_least_68 rfl (lv_at hl 2 rfl) ?_
                refine mc_ro (n := 2) (As := [.int v, .int (f_inPlan σ v)]) (rest := []) (v := [.int (nI (cstP σ v q9))]) ⟨hx, hb, hml, hown, hts⟩ hK hM (k_lasts la g ma (up (rw27 σ (rowP σ v q9)) 28 0 (tkP σ v x9)) u v (f_inPlan σ v) (show INV (up (rw27 σ (rowP σ v q9)) 28 0 (tkP σ v x9)) from hI) kv (nP σ v) hN6 (P_hr hI hq9) hn) gX7_least_X7_lasts rfl rfl rfl (by decide +kernel) ⟨Nat.le_of_ble_eq_true rfl, Nat.le_of_ble_eq_true rfl⟩ rfl hl.1 rfl (Nat.le_of_ble_eq_true rfl) dX7_least_69 ⟨Nat.zero_le _, Nat.zero_le _⟩ (congrArg (fun z => [Value.int z]) (P_lasts hI hq9 _)) ?_
                refine lv_istore (lv' := [(4, .int (nI (cstP σ v q9))), (0, .ref (ma 0)), (1, .int v), (2, .int (f_inPlan σ v)), (3, .int (nI m9))]) hx hb dX7_least_72 hl (by decide) rfl (fun ls hl => ?_)
                refine lv_iload hx hb dX7_least_74 (lv_at hl 0 rfl) ?_
                refine lv_iload_n hx hb dX7_least_76 rfl (lv_at hl 4 rfl) ?_
                refine lv_icmp_lt (tgt := 83) hx hb dX7_least_77 (by decide) (fun c_9 => ?_) (fun c_9 => ?_)
                · have hlt := (nI_ltI (by omega) (by omega)).mp c_9
                  refine lv_iload hx hb dX7_least_83 (lv_at hl 0 rfl) ?_
                  refine lv_istore_n (lv' := [(3, .int (nI (cstP σ v q9))), (4, .int (nI (cstP σ v q9))), (0, .ref (ma 0)), (1, .int v), (2, .int (f_inPlan σ v))]) hx hb dX7_least_85 rfl hl (by decide) rfl (fun ls hl => ?_)
                  refine lv_aload_n hx hb dX7_least_86 rfl (lv_at hl 2 rfl) ?_
                  refine m_get (v := .ref (ma 28)) hx hb hts hinX7 hown hK hM 28 (by decide) lk81 rfl dX7_least_87 ?_
                  refine lv_iconst (v := 0) hx hb dX7_least_90 (by decide) ?_
                  refine lv_aload_n hx hb dX7_least_91 rfl (lv_at hl 2 rfl) ?_
                  refine m_get (v := .ref (ma 27)) hx hb hts hinX7 hown hK hM 27 (by decide) lk78 rfl dX7_least_92 ?_
                  refine lv_iconst (v := 0) hx hb dX7_least_95 (by decide) ?_
                  refine m_iald (x := (bP σ v (pF q9 0))) hx hb hK hM 27 (by decide) rfl (i := 0) (n := 6) (vin_dec (by decide +kernel)) (by rw [ti_0]; exact if_pos (Nat.pos_of_ne_zero hN0)) dX7_least_96 ?_
                  refine m_iast hx hb hA hK hM 28 (by decide) rfl (i := 0) (n := 1) (vin_dec (by decide +kernel)) dX7_least_97 (fun H locs hM => ?_)
                  rw [ti_0] at hM
                  refine lv_goto (tgt := 58) hx hb dX7_least_98 (by decide) ?_
                  have e_10 : ((nI ((cstP σ v q9))) : Int32) = (nI (cstP σ v q9)) := (by first | rfl | (simp [-Int32.not_lt, -Int32.not_le, okL, okV, okO, okR, okD, isP, shP, hk, c_1, c_2, hC, hE, hF, hm9, c_8, c_9]; done) | (simp_all [-Int32.not_lt, -Int32.not_le, okL, okV, okO, okR, okD, isP, shP]; done))
                  have hl2 : lv_has ls 5 [(0, .ref (ma 0)), (1, .int v), (2, .int (f_inPlan σ v)), (3, .int (nI ((cstP σ v q9))))] := by
                    rw [e_10]
                    exact lv_sub hl [2, 3, 4, 0] rfl
                  have hM2 := hM.cg ((show (up (up (rw27 σ (rowP σ v q9)) 28 0 (tkP σ v x9)) 28 0 (bP σ v (pF q9 0))) = (up (rw27 σ (rowP σ v q9)) 28 0 (tkP σ v (pF q9 0))) from by rw [up_up, show tkP σ v (pF q9 0) = bP σ v (pF q9 0) from if_neg hN0]))
                  exact ih_58 (q9) (L9) ((cstP σ v q9)) ((pF q9 0)) hC2 hE (by first | exact bs_lt hF hlt | exact bs_ge hF hge) (by first | exact hcq | exact hm9) (by omega) _ _ hM2 ls hl2
                · have hge : ¬ cstP σ v q9 < m9 := fun q8 => c_9 ((nI_ltI (by omega) (by omega)).mpr q8)
                  refine lv_goto (tgt := 58) hx hb dX7_least_80 (by decide) ?_
                  have e_11 : ((nI (m9)) : Int32) = (nI m9) := (by first | rfl | (simp [-Int32.not_lt, -Int32.not_le, okL, okV, okO, okR, okD, isP, shP, hk, c_1, c_2, hC, hE, hF, hm9, c_8, c_9]; done) | (simp_all [-Int32.not_lt, -Int32.not_le, okL, okV, okO, okR, okD, isP, shP]; done))
                  have hl2 : lv_has ls 5 [(0, .ref (ma 0)), (1, .int v), (2, .int (f_inPlan σ v)), (3, .int (nI (m9)))] := by
                    rw [e_11]
                    exact lv_sub hl [1, 2, 3, 4] rfl
                  have hM2 := hM.cg ((show (up (rw27 σ (rowP σ v q9)) 28 0 (tkP σ v x9)) = (up (rw27 σ (rowP σ v q9)) 28 0 (tkP σ v x9)) from rfl))
                  exact ih_58 (q9) (L9) (m9) (x9) hC2 hE (by first | exact bs_lt hF hlt | exact bs_ge hF hge) (by first | exact hcq | exact hm9) (by omega) _ _ hM2 ls hl2
          have e_12 : ((nI ((cstP σ v (List.range (nP σ v))))) : Int32) = (nI (cstP σ v (List.range (nP σ v)))) := (by first | rfl | (simp [-Int32.not_lt, -Int32.not_le, okL, okV, okO, okR, okD, isP, shP, hk, c_1, c_2]; done) | (simp_all [-Int32.not_lt, -Int32.not_le, okL, okV, okO, okR, okD, isP, shP]; done))
          have hl2 : lv_has ls 5 [(0, .ref (ma 0)), (1, .int v), (2, .int (f_inPlan σ v)), (3, .int (nI ((cstP σ v (List.range (nP σ v))))))] := by
            rw [e_12]
            exact lv_sub hl [1, 2, 3, 0] rfl
          have hM2 := hM.cg ((show (up (rw27 σ (rowP σ v (List.range (nP σ v)))) 28 0 (bP σ v (pF (List.range (nP σ v)) 0))) = (up (rw27 σ (rowP σ v (List.range (nP σ v)))) 28 0 (tkP σ v (pF (List.range (nP σ v)) 0))) from by rw [show tkP σ v (pF (List.range (nP σ v)) 0) = bP σ v (pF (List.range (nP σ v)) 0) from if_neg hN0]))
          exact lp58 (B0.length + 1) ((List.range (nP σ v))) (B0) ((cstP σ v (List.range (nP σ v)))) ((pF (List.range (nP σ v)) 0)) hC0 (by unfold lastP; rw [hB0]) (by unfold bestP; rw [hB0]; rfl) (cstP_le hI kv hrg) (Nat.lt_succ_self _) _ _ hM2 ls hl2
      · replace c_1 := Int32.not_le.mp c_1
        have hk1 : k < nP σ v := (nI_ltI (by omega) (by omega)).mp (by rw [← hn]; exact c_1)
        refine lv_aload_n hx hb dX7_least_13 rfl (lv_at hl 0 rfl) ?_
        refine m_get (v := .ref (ma 27)) hx hb hts hinX7 hown hK hM 27 (by decide) lk78 rfl dX7_least_14 ?_
        refine lv_iload_n hx hb dX7_least_17 rfl (lv_at hl 3 rfl) ?_
        refine lv_aload_n hx hb dX7_least_18 rfl (lv_at hl 0 rfl) ?_
        refine lv_iload_n hx hb dX7_least_19 rfl (lv_at hl 1 rfl) ?_
        refine lv_iload_n hx hb dX7_least_20 rfl (lv_at hl 3 rfl) ?_
        refine mc_ro (n := 2) (As := [.int v, .int (nI k)]) (rest := [.int (nI k), .ref (ma 27)]) (v := [.int (f_lotAt (rw27 σ (rowK σ v k)) v (nI k))]) ⟨hx, hb, hml, hown, hts⟩ hK hM (k_lotAt la g ma (rw27 σ (rowK σ v k)) u v (nI k) (show CN (rw27 σ (rowK σ v k)) 3 24 from hI.1.2.2.1)) gX7_least_X7_lotAt rfl rfl rfl (by decide +kernel) ⟨Nat.le_of_ble_eq_true rfl, Nat.le_of_ble_eq_true rfl⟩ rfl hl.1 rfl (Nat.le_of_ble_eq_true rfl) dX7_least_21 ⟨Nat.zero_le _, Nat.zero_le _⟩ rfl ?_
        refine m_iast hx hb hA hK hM 27 (by decide) rfl (i := (nI k)) (n := 6) (vin_nI (by omega) (by decide)) dX7_least_24 (fun H locs hM => ?_)
        refine lv_iinc (v := ((nI k) + 1)) (lv' := [(3, .int ((nI k) + 1)), (0, .ref (ma 0)), (1, .int v), (2, .int (f_inPlan σ v))]) hx hb dX7_least_25 hl (k := 3) rfl rfl (by decide) rfl (fun ls hl => ?_)
        refine lv_goto (tgt := 8) hx hb dX7_least_28 (by decide) ?_
        have e_13 : ((nI (k + 1)) : Int32) = ((nI k) + 1) := (nI_1 k).symm
        have hl2 : lv_has ls 5 [(0, .ref (ma 0)), (1, .int v), (2, .int (f_inPlan σ v)), (3, .int (nI (k + 1)))] := by
          rw [e_13]
          exact lv_sub hl [1, 2, 3, 0] rfl
        have hM2 := hM.cg ((show (up (rw27 σ (rowK σ v k)) 27 (ti (nI k)) (f_lotAt (rw27 σ (rowK σ v k)) v (nI k))) = rw27 σ (rowK σ v (k + 1)) from rowK_s σ v (by omega)))
        exact ih_8 (k + 1) (by omega) (by omega) _ _ hM2 ls hl2
  have e_14 : ((nI (0)) : Int32) = 0 := (by first | rfl | (simp [-Int32.not_lt, -Int32.not_le, okL, okV, okO, okR, okD, isP, shP]; done) | (simp_all [-Int32.not_lt, -Int32.not_le, okL, okV, okO, okR, okD, isP, shP]; done))
  have hl2 : lv_has ls 5 [(0, .ref (ma 0)), (1, .int v), (2, .int (f_inPlan σ v)), (3, .int (nI (0)))] := by
    rw [e_14]
    exact lv_sub hl [2, 3, 1, 0] rfl
  have hM2 := hM.cg ((rowK_0 σ v).symm)
  exact lp8 ((nP σ v - 0) + 1) (0) (Nat.zero_le _) (Nat.lt_succ_self _) _ _ hM2 ls hl2
