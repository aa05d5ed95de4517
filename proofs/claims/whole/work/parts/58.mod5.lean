set_option maxHeartbeats 4000000 in
set_option maxRecDepth 100000 in
theorem k_lasts (la : Launch) (g : EG) (ma : Nat → Nat) (σ : Sg) (u : Nat → Int64) (v n : Int32) (hI : INV σ) (kv : vp_in v (nV σ)) (N : Nat) (hN : N ≤ 6) (hrw : ∀ j, j < N → vp_in (σ 27 j) (nL σ)) (hn : n = nI N) : Met la yX7_lasts wsX7_lasts ({ frames := 1, cells := 0, slots := 0, locals := 21 } : Room) (va_Pc [.ref (ma 0), .int v, .int n] (fun U => MR g ma σ u U.heap ∧ KK g U)) (QR (.returned (some (.int (lsF σ v N).1)))) 0 0 (fun _ => False) := by
  refine Met.ofW (cc := cX7_lasts) (maxL := 8) (ret := (some .int)) (by decide) rfl ?_
  intro p e s m args below meth c s₁ B hml hv
  obtain ⟨rfl, hR0, hK⟩ := hv
  have hx := B.exec
  have hb := B.bytes
  have hr := B.returns
  have hts := atoms_spec (ws := wsX7_lasts) B.pre
  have hown : s.vm.findClass RX7 = some m.cls := findClass_of_methodNamed B.named
  have hlocks := B.notSynchronized
  have hM : MS g 0 ma σ u s.heap s.heap [] := MS.start hR0
  have hinX7 : ∀ w ∈ wsX70, w ∈ wsX7_lasts := by decide +kernel
  have lk23 := hts (.fieldLink RX7 23 "DyehouseLedgerModel" "customer" "[I") (by decide +kernel)
  have lk38 := hts (.fieldLink RX7 38 "DyehouseLedgerModel" "order" "[I") (by decide +kernel)
  have lk66 := hts (.fieldLink RX7 66 "DyehouseLedgerModel" "light" "[I") (by decide +kernel)
  have lk69 := hts (.fieldLink RX7 69 "DyehouseLedgerModel" "barred" "[I") (by decide +kernel)
  have lk78 := hts (.fieldLink RX7 78 "DyehouseLedgerModel" "row" "[I") (by decide +kernel)
  have hl := lv_entry ([.ref (ma 0), .int v, .int n]) (n := 8) (Nat.le_of_ble_eq_true rfl)
  rw [lg_entry_eq]
  generalize (lg_sl ([.ref (ma 0), .int v, .int n]) ++ List.replicate (8 - (lg_sl ([.ref (ma 0), .int v, .int n])).length) Slot.unset).toArray = ls at hl ⊢
  have hl : lv_has ls 8 [(0, .ref (ma 0)), (1, .int v), (2, .int n)] := hl
  refine lv_iconst (v := 0) hx hb dX7_lasts_0 (by decide) ?_
  refine lv_istore_n (lv' := [(3, .int 0), (0, .ref (ma 0)), (1, .int v), (2, .int n)]) hx hb dX7_lasts_1 rfl hl (by decide) rfl (fun ls hl => ?_)
  refine lv_aload_n hx hb dX7_lasts_2 rfl (lv_at hl 1 rfl) ?_
  refine m_get (v := .ref (ma 23)) hx hb hts hinX7 hown hK hM 23 (by decide) lk66 rfl dX7_lasts_3 ?_
  refine lv_iload_n hx hb dX7_lasts_6 rfl (lv_at hl 2 rfl) ?_
  refine m_iald (x := (σ 23 (ti v))) hx hb hK hM 23 (by decide) rfl (i := v) (n := 4) (vat4 hI kv) rfl dX7_lasts_7 ?_
  refine lv_istore (lv' := [(4, .int (σ 23 (ti v))), (3, .int 0), (0, .ref (ma 0)), (1, .int v), (2, .int n)]) hx hb dX7_lasts_8 hl (by decide) rfl (fun ls hl => ?_)
  refine lv_aload_n hx hb dX7_lasts_10 rfl (lv_at hl 2 rfl) ?_
  refine m_get (v := .ref (ma 24)) hx hb hts hinX7 hown hK hM 24 (by decide) lk69 rfl dX7_lasts_11 ?_
  refine lv_iload_n hx hb dX7_lasts_14 rfl (lv_at hl 3 rfl) ?_
  refine m_iald (x := (σ 24 (ti v))) hx hb hK hM 24 (by decide) rfl (i := v) (n := 4) (vat4 hI kv) rfl dX7_lasts_15 ?_
  refine lv_istore (lv' := [(5, .int (σ 24 (ti v))), (4, .int (σ 23 (ti v))), (3, .int 0), (0, .ref (ma 0)), (1, .int v), (2, .int n)]) hx hb dX7_lasts_16 hl (by decide) rfl (fun ls hl => ?_)
  refine lv_iconst (v := 0) hx hb dX7_lasts_18 (by decide) ?_
  refine lv_istore (lv' := [(6, .int 0), (5, .int (σ 24 (ti v))), (4, .int (σ 23 (ti v))), (3, .int 0), (0, .ref (ma 0)), (1, .int v), (2, .int n)]) hx hb dX7_lasts_19 hl (by decide) rfl (fun ls hl => ?_)
  have lp21 : ∀ (n9 : Nat) (j : Nat), (j ≤ N) → N - j < n9 → ∀ (ls : Array Slot), lv_has ls 8 [(0, .ref (ma 0)), (1, .int v), (2, .int n), (3, .int (lsF σ v j).1), (4, .int (lsF σ v j).2.1), (5, .int (lsF σ v j).2.2), (6, .int (nI j))] → W p la e ({ frames := 1, cells := 0, slots := 0, locals := 21 } : Room) s m ([.ref (ma 0), .int v, .int n] : List Value).toArray below meth c s.heap [] 0 0 (MQ below (QR (.returned (some (.int (lsF σ v N).1)))) ([.ref (ma 0), .int v, .int n] : List Value).toArray s 0 0 (fun _ => False)) (F0 m 21 ls []) := by
    intro n9_21
    induction n9_21 with
    | zero => intro j _ h9 ; exact absurd h9 (Nat.not_lt_zero _)
    | succ n9_21 ih_21 =>
      intro j hj h9 ls hl
      refine lv_iload hx hb dX7_lasts_21 (lv_at hl 6 rfl) ?_
      refine lv_iload_n hx hb dX7_lasts_23 rfl (lv_at hl 2 rfl) ?_
      refine lv_icmp_ge (tgt := 105) hx hb dX7_lasts_24 (by decide) (fun c_1 => ?_) (fun c_1 => ?_)
      · replace c_1 := Int32.not_lt.mpr c_1
        obtain rfl : N = j := by
          have q := mt (nI_ltI (a := j) (b := N) (by omega) (by omega)).mpr (by rw [← hn]; exact c_1)
          omega
        refine lv_iload_n hx hb dX7_lasts_105 rfl (lv_at hl 3 rfl) ?_
        exact W.iret (v := (lsF σ v N).1) hx hb hr (fun t ht hW => ⟨congrArg (fun z => Outcome.returned (some (Value.int z))) (by first | rfl | (simp [-Int32.not_lt, -Int32.not_le, okL, okV, okO, okR, okD, isP, shP, f_cust, hj, c_1]; done) | (simp_all [-Int32.not_lt, -Int32.not_le, okL, okV, okO, okR, okD, isP, shP, f_cust]; done)), ht⟩) (fun _ h => nomatch h) dX7_lasts_106
      · replace c_1 := Int32.not_le.mp c_1
        have hj1 : j < N := (nI_ltI (a := j) (b := N) (by omega) (by omega)).mp (by rw [← hn]; exact c_1)
        have kj := hrw j hj1
        refine lv_aload_n hx hb dX7_lasts_27 rfl (lv_at hl 0 rfl) ?_
        refine m_get (v := .ref (ma 27)) hx hb hts hinX7 hown hK hM 27 (by decide) lk78 rfl dX7_lasts_28 ?_
        refine lv_iload hx hb dX7_lasts_31 (lv_at hl 6 rfl) ?_
        refine m_iald (x := (σ 27 j)) hx hb hK hM 27 (by decide) rfl (i := (nI j)) (n := 6) (vin_nI (Nat.lt_of_lt_of_le hj1 hN) (by decide)) (congrArg (σ 27) (ti_nI (by omega))) dX7_lasts_33 ?_
        refine lv_istore (lv' := [(7, .int (σ 27 j)), (0, .ref (ma 0)), (1, .int v), (2, .int n), (3, .int (lsF σ v j).1), (4, .int (lsF σ v j).2.1), (5, .int (lsF σ v j).2.2), (6, .int (nI j))]) hx hb dX7_lasts_34 hl (by decide) rfl (fun ls hl => ?_)
        refine lv_iload hx hb dX7_lasts_36 (lv_at hl 5 rfl) ?_
        refine lv_iconst (v := (-1)) hx hb dX7_lasts_38 (by decide) ?_
        refine lv_icmp_eq (tgt := 53) hx hb dX7_lasts_39 (by decide) (fun c_2 => ?_) (fun c_2 => ?_)
        · refine lv_iload hx hb dX7_lasts_53 (lv_at hl 6 rfl) ?_
          refine lv_iconst (v := (-1)) hx hb dX7_lasts_55 (by decide) ?_
          refine lv_icmp_eq (tgt := 82) hx hb dX7_lasts_56 (by decide) (fun c_3 => ?_) (fun c_3 => ?_)
          · refine lv_aload_n hx hb dX7_lasts_82 rfl (lv_at hl 1 rfl) ?_
            refine lv_iload hx hb dX7_lasts_83 (lv_at hl 0 rfl) ?_
            refine mc_ro (n := 1) (As := [.int (σ 27 j)]) (rest := []) (v := [.int (f_lightOf σ (σ 27 j))]) ⟨hx, hb, hml, hown, hts⟩ hK hM (k_lightOf la g ma σ u (σ 27 j) hI kj) gX7_lasts_X7_lightOf rfl rfl rfl (by decide +kernel) ⟨Nat.le_of_ble_eq_true rfl, Nat.le_of_ble_eq_true rfl⟩ rfl hl.1 rfl (Nat.le_of_ble_eq_true rfl) dX7_lasts_85 ⟨Nat.zero_le _, Nat.zero_le _⟩ rfl ?_
            refine lv_istore (lv' := [(4, .int (f_lightOf σ (σ 27 j))), (7, .int (σ 27 j)), (0, .ref (ma 0)), (1, .int v), (2, .int n), (3, .int (lsF σ v j).1), (5, .int (lsF σ v j).2.2), (6, .int (nI j))]) hx hb dX7_lasts_88 hl (by decide) rfl (fun ls hl => ?_)
            refine lv_iload_n hx hb dX7_lasts_90 rfl (lv_at hl 5 rfl) ?_
            refine lv_aload_n hx hb dX7_lasts_91 rfl (lv_at hl 2 rfl) ?_
            refine lv_iload hx hb dX7_lasts_92 (lv_at hl 1 rfl) ?_
            refine mc_ro (n := 1) (As := [.int (σ 27 j)]) (rest := [.int (lsF σ v j).1]) (v := [.int (f_hours σ (σ 27 j))]) ⟨hx, hb, hml, hown, hts⟩ hK hM (k_hours la g ma σ u (σ 27 j) (lot24 hI kj)) gX7_lasts_X7_hours rfl rfl rfl (by decide +kernel) ⟨Nat.le_of_ble_eq_true rfl, Nat.le_of_ble_eq_true rfl⟩ rfl hl.1 rfl (Nat.le_of_ble_eq_true rfl) dX7_lasts_94 ⟨Nat.zero_le _, Nat.zero_le _⟩ rfl ?_
            refine lv_iadd hx hb dX7_lasts_97 ?_
            refine lv_istore_n (lv' := [(3, .int ((lsF σ v j).1 + (f_hours σ (σ 27 j)))), (4, .int (f_lightOf σ (σ 27 j))), (7, .int (σ 27 j)), (0, .ref (ma 0)), (1, .int v), (2, .int n), (5, .int (lsF σ v j).2.2), (6, .int (nI j))]) hx hb dX7_lasts_98 rfl hl (by decide) rfl (fun ls hl => ?_)
            refine lv_iinc (v := ((nI j) + 1)) (lv' := [(6, .int ((nI j) + 1)), (3, .int ((lsF σ v j).1 + (f_hours σ (σ 27 j)))), (4, .int (f_lightOf σ (σ 27 j))), (7, .int (σ 27 j)), (0, .ref (ma 0)), (1, .int v), (2, .int n), (5, .int (lsF σ v j).2.2)]) hx hb dX7_lasts_99 hl (k := 7) rfl rfl (by decide) rfl (fun ls hl => ?_)
            refine lv_goto (tgt := 21) hx hb dX7_lasts_102 (by decide) ?_
            have e_4 : ((lsF σ v (j + 1)).1 : Int32) = ((lsF σ v j).1 + (f_hours σ (σ 27 j))) := (by first | rw [lsF_c (by first | exact Or.inl ⟨by assumption, by assumption⟩ | exact Or.inr ⟨by assumption, by assumption⟩)] | rw [lsF_n (by rintro (⟨q1, q2⟩ | ⟨q1, q2⟩) <;> first | exact q1 (by assumption) | exact q2 (by assumption) | exact absurd q2 (by assumption))])
            have e_5 : ((lsF σ v (j + 1)).2.1 : Int32) = (f_lightOf σ (σ 27 j)) := (by first | rw [lsF_c (by first | exact Or.inl ⟨by assumption, by assumption⟩ | exact Or.inr ⟨by assumption, by assumption⟩)] | rw [lsF_n (by rintro (⟨q1, q2⟩ | ⟨q1, q2⟩) <;> first | exact q1 (by assumption) | exact q2 (by assumption) | exact absurd q2 (by assumption))])
            have e_6 : ((lsF σ v (j + 1)).2.2 : Int32) = (lsF σ v j).2.2 := (by first | rw [lsF_c (by first | exact Or.inl ⟨by assumption, by assumption⟩ | exact Or.inr ⟨by assumption, by assumption⟩)] | rw [lsF_n (by rintro (⟨q1, q2⟩ | ⟨q1, q2⟩) <;> first | exact q1 (by assumption) | exact q2 (by assumption) | exact absurd q2 (by assumption))])
            have e_7 : ((nI (j + 1)) : Int32) = ((nI j) + 1) := (nI_1 j).symm
            have hl2 : lv_has ls 8 [(0, .ref (ma 0)), (1, .int v), (2, .int n), (3, .int (lsF σ v (j + 1)).1), (4, .int (lsF σ v (j + 1)).2.1), (5, .int (lsF σ v (j + 1)).2.2), (6, .int (nI (j + 1)))] := by
              rw [e_4, e_5, e_6, e_7]
              exact lv_sub hl [4, 5, 6, 1, 2, 7, 0] rfl
            exact ih_21 (j + 1) (by omega) (by omega) ls hl2
          · refine lv_iload hx hb dX7_lasts_59 (lv_at hl 6 rfl) ?_
            refine lv_aload_n hx hb dX7_lasts_61 rfl (lv_at hl 1 rfl) ?_
            refine m_get (v := .ref (ma 9)) hx hb hts hinX7 hown hK hM 9 (by decide) lk23 rfl dX7_lasts_62 ?_
            refine lv_aload_n hx hb dX7_lasts_65 rfl (lv_at hl 1 rfl) ?_
            refine m_get (v := .ref (ma 14)) hx hb hts hinX7 hown hK hM 14 (by decide) lk38 rfl dX7_lasts_66 ?_
            refine lv_iload hx hb dX7_lasts_69 (lv_at hl 0 rfl) ?_
            refine m_iald (x := (σ 14 (ti (σ 27 j)))) hx hb hK hM 14 (by decide) rfl (i := (σ 27 j)) (n := 24) (lot24 hI kj) rfl dX7_lasts_71 ?_
            refine m_iald (x := (σ 9 (ti (σ 14 (ti (σ 27 j)))))) hx hb hK hM 9 (by decide) rfl (i := (σ 14 (ti (σ 27 j)))) (n := 6) (od6 hI (ordO hI kj)) rfl dX7_lasts_72 ?_
            refine lv_icmp_eq (tgt := 82) hx hb dX7_lasts_73 (by decide) (fun c_8 => ?_) (fun c_8 => ?_)
            · refine lv_aload_n hx hb dX7_lasts_82 rfl (lv_at hl 1 rfl) ?_
              refine lv_iload hx hb dX7_lasts_83 (lv_at hl 0 rfl) ?_
              refine mc_ro (n := 1) (As := [.int (σ 27 j)]) (rest := []) (v := [.int (f_lightOf σ (σ 27 j))]) ⟨hx, hb, hml, hown, hts⟩ hK hM (k_lightOf la g ma σ u (σ 27 j) hI kj) gX7_lasts_X7_lightOf rfl rfl rfl (by decide +kernel) ⟨Nat.le_of_ble_eq_true rfl, Nat.le_of_ble_eq_true rfl⟩ rfl hl.1 rfl (Nat.le_of_ble_eq_true rfl) dX7_lasts_85 ⟨Nat.zero_le _, Nat.zero_le _⟩ rfl ?_
              refine lv_istore (lv' := [(4, .int (f_lightOf σ (σ 27 j))), (7, .int (σ 27 j)), (0, .ref (ma 0)), (1, .int v), (2, .int n), (3, .int (lsF σ v j).1), (5, .int (lsF σ v j).2.2), (6, .int (nI j))]) hx hb dX7_lasts_88 hl (by decide) rfl (fun ls hl => ?_)
              refine lv_iload_n hx hb dX7_lasts_90 rfl (lv_at hl 5 rfl) ?_
              refine lv_aload_n hx hb dX7_lasts_91 rfl (lv_at hl 2 rfl) ?_
              refine lv_iload hx hb dX7_lasts_92 (lv_at hl 1 rfl) ?_
              refine mc_ro (n := 1) (As := [.int (σ 27 j)]) (rest := [.int (lsF σ v j).1]) (v := [.int (f_hours σ (σ 27 j))]) ⟨hx, hb, hml, hown, hts⟩ hK hM (k_hours la g ma σ u (σ 27 j) (lot24 hI kj)) gX7_lasts_X7_hours rfl rfl rfl (by decide +kernel) ⟨Nat.le_of_ble_eq_true rfl, Nat.le_of_ble_eq_true rfl⟩ rfl hl.1 rfl (Nat.le_of_ble_eq_true rfl) dX7_lasts_94 ⟨Nat.zero_le _, Nat.zero_le _⟩ rfl ?_
              refine lv_iadd hx hb dX7_lasts_97 ?_
              refine lv_istore_n (lv' := [(3, .int ((lsF σ v j).1 + (f_hours σ (σ 27 j)))), (4, .int (f_lightOf σ (σ 27 j))), (7, .int (σ 27 j)), (0, .ref (ma 0)), (1, .int v), (2, .int n), (5, .int (lsF σ v j).2.2), (6, .int (nI j))]) hx hb dX7_lasts_98 rfl hl (by decide) rfl (fun ls hl => ?_)
              refine lv_iinc (v := ((nI j) + 1)) (lv' := [(6, .int ((nI j) + 1)), (3, .int ((lsF σ v j).1 + (f_hours σ (σ 27 j)))), (4, .int (f_lightOf σ (σ 27 j))), (7, .int (σ 27 j)), (0, .ref (ma 0)), (1, .int v), (2, .int n), (5, .int (lsF σ v j).2.2)]) hx hb dX7_lasts_99 hl (k := 7) rfl rfl (by decide) rfl (fun ls hl => ?_)
              refine lv_goto (tgt := 21) hx hb dX7_lasts_102 (by decide) ?_
              have e_9 : ((lsF σ v (j + 1)).1 : Int32) = ((lsF σ v j).1 + (f_hours σ (σ 27 j))) := (by first | rw [lsF_c (by first | exact Or.inl ⟨by assumption, by assumption⟩ | exact Or.inr ⟨by assumption, by assumption⟩)] | rw [lsF_n (by rintro (⟨q1, q2⟩ | ⟨q1, q2⟩) <;> first | exact q1 (by assumption) | exact q2 (by assumption) | exact absurd q2 (by assumption))])
              have e_10 : ((lsF σ v (j + 1)).2.1 : Int32) = (f_lightOf σ (σ 27 j)) := (by first | rw [lsF_c (by first | exact Or.inl ⟨by assumption, by assumption⟩ | exact Or.inr ⟨by assumption, by assumption⟩)] | rw [lsF_n (by rintro (⟨q1, q2⟩ | ⟨q1, q2⟩) <;> first | exact q1 (by assumption) | exact q2 (by assumption) | exact absurd q2 (by assumption))])
              have e_11 : ((lsF σ v (j + 1)).2.2 : Int32) = (lsF σ v j).2.2 := (by first | rw [lsF_c (by first | exact Or.inl ⟨by assumption, by assumption⟩ | exact Or.inr ⟨by assumption, by assumption⟩)] | rw [lsF_n (by rintro (⟨q1, q2⟩ | ⟨q1, q2⟩) <;> first | exact q1 (by assumption) | exact q2 (by assumption) | exact absurd q2 (by assumption))])
              have e_12 : ((nI (j + 1)) : Int32) = ((nI j) + 1) := (nI_1 j).symm
              have hl2 : lv_has ls 8 [(0, .ref (ma 0)), (1, .int v), (2, .int n), (3, .int (lsF σ v (j + 1)).1), (4, .int (lsF σ v (j + 1)).2.1), (5, .int (lsF σ v (j + 1)).2.2), (6, .int (nI (j + 1)))] := by
                rw [e_9, e_10, e_11, e_12]
                exact lv_sub hl [4, 5, 6, 1, 2, 7, 0] rfl
              exact ih_21 (j + 1) (by omega) (by omega) ls hl2
            · refine lv_iinc (v := ((lsF σ v j).1 + 3)) (lv' := [(3, .int ((lsF σ v j).1 + 3)), (7, .int (σ 27 j)), (0, .ref (ma 0)), (1, .int v), (2, .int n), (4, .int (lsF σ v j).2.1), (5, .int (lsF σ v j).2.2), (6, .int (nI j))]) hx hb dX7_lasts_76 hl (k := 4) rfl rfl (by decide) rfl (fun ls hl => ?_)
              refine lv_iconst (v := (-1)) hx hb dX7_lasts_79 (by decide) ?_
              refine lv_istore (lv' := [(5, .int (-1)), (3, .int ((lsF σ v j).1 + 3)), (7, .int (σ 27 j)), (0, .ref (ma 0)), (1, .int v), (2, .int n), (4, .int (lsF σ v j).2.1), (6, .int (nI j))]) hx hb dX7_lasts_80 hl (by decide) rfl (fun ls hl => ?_)
              refine lv_aload_n hx hb dX7_lasts_82 rfl (lv_at hl 3 rfl) ?_
              refine lv_iload hx hb dX7_lasts_83 (lv_at hl 2 rfl) ?_
              refine mc_ro (n := 1) (As := [.int (σ 27 j)]) (rest := []) (v := [.int (f_lightOf σ (σ 27 j))]) ⟨hx, hb, hml, hown, hts⟩ hK hM (k_lightOf la g ma σ u (σ 27 j) hI kj) gX7_lasts_X7_lightOf rfl rfl rfl (by decide +kernel) ⟨Nat.le_of_ble_eq_true rfl, Nat.le_of_ble_eq_true rfl⟩ rfl hl.1 rfl (Nat.le_of_ble_eq_true rfl) dX7_lasts_85 ⟨Nat.zero_le _, Nat.zero_le _⟩ rfl ?_
              refine lv_istore (lv' := [(4, .int (f_lightOf σ (σ 27 j))), (5, .int (-1)), (3, .int ((lsF σ v j).1 + 3)), (7, .int (σ 27 j)), (0, .ref (ma 0)), (1, .int v), (2, .int n), (6, .int (nI j))]) hx hb dX7_lasts_88 hl (by decide) rfl (fun ls hl => ?_)
              refine lv_iload_n hx hb dX7_lasts_90 rfl (lv_at hl 2 rfl) ?_
              refine lv_aload_n hx hb dX7_lasts_91 rfl (lv_at hl 4 rfl) ?_
              refine lv_iload hx hb dX7_lasts_92 (lv_at hl 3 rfl) ?_
              refine mc_ro (n := 1) (As := [.int (σ 27 j)]) (rest := [.int ((lsF σ v j).1 + 3)]) (v := [.int (f_hours σ (σ 27 j))]) ⟨hx, hb, hml, hown, hts⟩ hK hM (k_hours la g ma σ u (σ 27 j) (lot24 hI kj)) gX7_lasts_X7_hours rfl rfl rfl (by decide +kernel) ⟨Nat.le_of_ble_eq_true rfl, Nat.le_of_ble_eq_true rfl⟩ rfl hl.1 rfl (Nat.le_of_ble_eq_true rfl) dX7_lasts_94 ⟨Nat.zero_le _, Nat.zero_le _⟩ rfl ?_
              refine lv_iadd hx hb dX7_lasts_97 ?_
              refine lv_istore_n (lv' := [(3, .int (((lsF σ v j).1 + 3) + (f_hours σ (σ 27 j)))), (4, .int (f_lightOf σ (σ 27 j))), (5, .int (-1)), (7, .int (σ 27 j)), (0, .ref (ma 0)), (1, .int v), (2, .int n), (6, .int (nI j))]) hx hb dX7_lasts_98 rfl hl (by decide) rfl (fun ls hl => ?_)
              refine lv_iinc (v := ((nI j) + 1)) (lv' := [(6, .int ((nI j) + 1)), (3, .int (((lsF σ v j).1 + 3) + (f_hours σ (σ 27 j)))), (4, .int (f_lightOf σ (σ 27 j))), (5, .int (-1)), (7, .int (σ 27 j)), (0, .ref (ma 0)), (1, .int v), (2, .int n)]) hx hb dX7_lasts_99 hl (k := 7) rfl rfl (by decide) rfl (fun ls hl => ?_)
              refine lv_goto (tgt := 21) hx hb dX7_lasts_102 (by decide) ?_
              have e_13 : ((lsF σ v (j + 1)).1 : Int32) = (((lsF σ v j).1 + 3) + (f_hours σ (σ 27 j))) := (by first | rw [lsF_c (by first | exact Or.inl ⟨by assumption, by assumption⟩ | exact Or.inr ⟨by assumption, by assumption⟩)] | rw [lsF_n (by rintro (⟨q1, q2⟩ | ⟨q1, q2⟩) <;> first | exact q1 (by assumption) | exact q2 (by assumption) | exact absurd q2 (by assumption))])
              have e_14 : ((lsF σ v (j + 1)).2.1 : Int32) = (f_lightOf σ (σ 27 j)) := (by first | rw [lsF_c (by first | exact Or.inl ⟨by assumption, by assumption⟩ | exact Or.inr ⟨by assumption, by assumption⟩)] | rw [lsF_n (by rintro (⟨q1, q2⟩ | ⟨q1, q2⟩) <;> first | exact q1 (by assumption) | exact q2 (by assumption) | exact absurd q2 (by assumption))])
              have e_15 : ((lsF σ v (j + 1)).2.2 : Int32) = (-1) := (by first | rw [lsF_c (by first | exact Or.inl ⟨by assumption, by assumption⟩ | exact Or.inr ⟨by assumption, by assumption⟩)] | rw [lsF_n (by rintro (⟨q1, q2⟩ | ⟨q1, q2⟩) <;> first | exact q1 (by assumption) | exact q2 (by assumption) | exact absurd q2 (by assumption))])
              have e_16 : ((nI (j + 1)) : Int32) = ((nI j) + 1) := (nI_1 j).symm
              have hl2 : lv_has ls 8 [(0, .ref (ma 0)), (1, .int v), (2, .int n), (3, .int (lsF σ v (j + 1)).1), (4, .int (lsF σ v (j + 1)).2.1), (5, .int (lsF σ v (j + 1)).2.2), (6, .int (nI (j + 1)))] := by
                rw [e_13, e_14, e_15, e_16]
                exact lv_sub hl [5, 6, 7, 1, 2, 3, 0] rfl
              exact ih_21 (j + 1) (by omega) (by omega) ls hl2
        · refine lv_iload hx hb dX7_lasts_42 (lv_at hl 5 rfl) ?_
          refine lv_aload_n hx hb dX7_lasts_44 rfl (lv_at hl 1 rfl) ?_
          refine lv_iload hx hb dX7_lasts_45 (lv_at hl 0 rfl) ?_
          refine mc_ro (n := 1) (As := [.int (σ 27 j)]) (rest := [.int (lsF σ v j).2.1]) (v := [.int (f_lightOf σ (σ 27 j))]) ⟨hx, hb, hml, hown, hts⟩ hK hM (k_lightOf la g ma σ u (σ 27 j) hI kj) gX7_lasts_X7_lightOf rfl rfl rfl (by decide +kernel) ⟨Nat.le_of_ble_eq_true rfl, Nat.le_of_ble_eq_true rfl⟩ rfl hl.1 rfl (Nat.le_of_ble_eq_true rfl) dX7_lasts_47 ⟨Nat.zero_le _, Nat.zero_le _⟩ rfl ?_
          refine lv_icmp_lt (tgt := 76) hx hb dX7_lasts_50 (by decide) (fun c_17 => ?_) (fun c_17 => ?_)
          · refine lv_iinc (v := ((lsF σ v j).1 + 3)) (lv' := [(3, .int ((lsF σ v j).1 + 3)), (7, .int (σ 27 j)), (0, .ref (ma 0)), (1, .int v), (2, .int n), (4, .int (lsF σ v j).2.1), (5, .int (lsF σ v j).2.2), (6, .int (nI j))]) hx hb dX7_lasts_76 hl (k := 4) rfl rfl (by decide) rfl (fun ls hl => ?_)
            refine lv_iconst (v := (-1)) hx hb dX7_lasts_79 (by decide) ?_
            refine lv_istore (lv' := [(5, .int (-1)), (3, .int ((lsF σ v j).1 + 3)), (7, .int (σ 27 j)), (0, .ref (ma 0)), (1, .int v), (2, .int n), (4, .int (lsF σ v j).2.1), (6, .int (nI j))]) hx hb dX7_lasts_80 hl (by decide) rfl (fun ls hl => ?_)
            refine lv_aload_n hx hb dX7_lasts_82 rfl (lv_at hl 3 rfl) ?_
            refine lv_iload hx hb dX7_lasts_83 (lv_at hl 2 rfl) ?_
            refine mc_ro (n := 1) (As := [.int (σ 27 j)]) (rest := []) (v := [.int (f_lightOf σ (σ 27 j))]) ⟨hx, hb, hml, hown, hts⟩ hK hM (k_lightOf la g ma σ u (σ 27 j) hI kj) gX7_lasts_X7_lightOf rfl rfl rfl (by decide +kernel) ⟨Nat.le_of_ble_eq_true rfl, Nat.le_of_ble_eq_true rfl⟩ rfl hl.1 rfl (Nat.le_of_ble_eq_true rfl) dX7_lasts_85 ⟨Nat.zero_le _, Nat.zero_le _⟩ rfl ?_
            refine lv_istore (lv' := [(4, .int (f_lightOf σ (σ 27 j))), (5, .int (-1)), (3, .int ((lsF σ v j).1 + 3)), (7, .int (σ 27 j)), (0, .ref (ma 0)), (1, .int v), (2, .int n), (6, .int (nI j))]) hx hb dX7_lasts_88 hl (by decide) rfl (fun ls hl => ?_)
            refine lv_iload_n hx hb dX7_lasts_90 rfl (lv_at hl 2 rfl) ?_
            refine lv_aload_n hx hb dX7_lasts_91 rfl (lv_at hl 4 rfl) ?_
            refine lv_iload hx hb dX7_lasts_92 (lv_at hl 3 rfl) ?_
            refine mc_ro (n := 1) (As := [.int (σ 27 j)]) (rest := [.int ((lsF σ v j).1 + 3)]) (v := [.int (f_hours σ (σ 27 j))]) ⟨hx, hb, hml, hown, hts⟩ hK hM (k_hours la g ma σ u (σ 27 j) (lot24 hI kj)) gX7_lasts_X7_hours rfl rfl rfl (by decide +kernel) ⟨Nat.le_of_ble_eq_true rfl, Nat.le_of_ble_eq_true rfl⟩ rfl hl.1 rfl (Nat.le_of_ble_eq_true rfl) dX7_lasts_94 ⟨Nat.zero_le _, Nat.zero_le _⟩ rfl ?_
            refine lv_iadd hx hb dX7_lasts_97 ?_
            refine lv_istore_n (lv' := [(3, .int (((lsF σ v j).1 + 3) + (f_hours σ (σ 27 j)))), (4, .int (f_lightOf σ (σ 27 j))), (5, .int (-1)), (7, .int (σ 27 j)), (0, .ref (ma 0)), (1, .int v), (2, .int n), (6, .int (nI j))]) hx hb dX7_lasts_98 rfl hl (by decide) rfl (fun ls hl => ?_)
            refine lv_iinc (v := ((nI j) + 1)) (lv' := [(6, .int ((nI j) + 1)), (3, .int (((lsF σ v j).1 + 3) + (f_hours σ (σ 27 j)))), (4, .int (f_lightOf σ (σ 27 j))), (5, .int (-1)), (7, .int (σ 27 j)), (0, .ref (ma 0)), (1, .int v), (2, .int n)]) hx hb dX7_lasts_99 hl (k := 7) rfl rfl (by decide) rfl (fun ls hl => ?_)
            refine lv_goto (tgt := 21) hx hb dX7_lasts_102 (by decide) ?_
            have e_18 : ((lsF σ v (j + 1)).1 : Int32) = (((lsF σ v j).1 + 3) + (f_hours σ (σ 27 j))) := (by first | rw [lsF_c (by first | exact Or.inl ⟨by assumption, by assumption⟩ | exact Or.inr ⟨by assumption, by assumption⟩)] | rw [lsF_n (by rintro (⟨q1, q2⟩ | ⟨q1, q2⟩) <;> first | exact q1 (by assumption) | exact q2 (by assumption) | exact absurd q2 (by assumption))])
            have e_19 : ((lsF σ v (j + 1)).2.1 : Int32) = (f_lightOf σ (σ 27 j)) := (by first | rw [lsF_c (by first | exact Or.inl ⟨by assumption, by assumption⟩ | exact Or.inr ⟨by assumption, by assumption⟩)] | rw [lsF_n (by rintro (⟨q1, q2⟩ | ⟨q1, q2⟩) <;> first | exact q1 (by assumption) | exact q2 (by assumption) | exact absurd q2 (by assumption))])
            have e_20 : ((lsF σ v (j + 1)).2.2 : Int32) = (-1) := (by first | rw [lsF_c (by first | exact Or.inl ⟨by assumption, by assumption⟩ | exact Or.inr ⟨by assumption, by assumption⟩)] | rw [lsF_n (by rintro (⟨q1, q2⟩ | ⟨q1, q2⟩) <;> first | exact q1 (by assumption) | exact q2 (by assumption) | exact absurd q2 (by assumption))])
            have e_21 : ((nI (j + 1)) : Int32) = ((nI j) + 1) := (nI_1 j).symm
            have hl2 : lv_has ls 8 [(0, .ref (ma 0)), (1, .int v), (2, .int n), (3, .int (lsF σ v (j + 1)).1), (4, .int (lsF σ v (j + 1)).2.1), (5, .int (lsF σ v (j + 1)).2.2), (6, .int (nI (j + 1)))] := by
              rw [e_18, e_19, e_20, e_21]
              exact lv_sub hl [5, 6, 7, 1, 2, 3, 0] rfl
            exact ih_21 (j + 1) (by omega) (by omega) ls hl2
          · refine lv_iload hx hb dX7_lasts_53 (lv_at hl 6 rfl) ?_
            refine lv_iconst (v := (-1)) hx hb dX7_lasts_55 (by decide) ?_
            refine lv_icmp_eq (tgt := 82) hx hb dX7_lasts_56 (by decide) (fun c_22 => ?_) (fun c_22 => ?_)
            · refine lv_aload_n hx hb dX7_lasts_82 rfl (lv_at hl 1 rfl) ?_
              refine lv_iload hx hb dX7_lasts_83 (lv_at hl 0 rfl) ?_
              refine mc_ro (n := 1) (As := [.int (σ 27 j)]) (rest := []) (v := [.int (f_lightOf σ (σ 27 j))]) ⟨hx, hb, hml, hown, hts⟩ hK hM (k_lightOf la g ma σ u (σ 27 j) hI kj) gX7_lasts_X7_lightOf rfl rfl rfl (by decide +kernel) ⟨Nat.le_of_ble_eq_true rfl, Nat.le_of_ble_eq_true rfl⟩ rfl hl.1 rfl (Nat.le_of_ble_eq_true rfl) dX7_lasts_85 ⟨Nat.zero_le _, Nat.zero_le _⟩ rfl ?_
              refine lv_istore (lv' := [(4, .int (f_lightOf σ (σ 27 j))), (7, .int (σ 27 j)), (0, .ref (ma 0)), (1, .int v), (2, .int n), (3, .int (lsF σ v j).1), (5, .int (lsF σ v j).2.2), (6, .int (nI j))]) hx hb dX7_lasts_88 hl (by decide) rfl (fun ls hl => ?_)
              refine lv_iload_n hx hb dX7_lasts_90 rfl (lv_at hl 5 rfl) ?_
              refine lv_aload_n hx hb dX7_lasts_91 rfl (lv_at hl 2 rfl) ?_
              refine lv_iload hx hb dX7_lasts_92 (lv_at hl 1 rfl) ?_
              refine mc_ro (n := 1) (As := [.int (σ 27 j)]) (rest := [.int (lsF σ v j).1]) (v := [.int (f_hours σ (σ 27 j))]) ⟨hx, hb, hml, hown, hts⟩ hK hM (k_hours la g ma σ u (σ 27 j) (lot24 hI kj)) gX7_lasts_X7_hours rfl rfl rfl (by decide +kernel) ⟨Nat.le_of_ble_eq_true rfl, Nat.le_of_ble_eq_true rfl⟩ rfl hl.1 rfl (Nat.le_of_ble_eq_true rfl) dX7_lasts_94 ⟨Nat.zero_le _, Nat.zero_le _⟩ rfl ?_
              refine lv_iadd hx hb dX7_lasts_97 ?_
              refine lv_istore_n (lv' := [(3, .int ((lsF σ v j).1 + (f_hours σ (σ 27 j)))), (4, .int (f_lightOf σ (σ 27 j))), (7, .int (σ 27 j)), (0, .ref (ma 0)), (1, .int v), (2, .int n), (5, .int (lsF σ v j).2.2), (6, .int (nI j))]) hx hb dX7_lasts_98 rfl hl (by decide) rfl (fun ls hl => ?_)
              refine lv_iinc (v := ((nI j) + 1)) (lv' := [(6, .int ((nI j) + 1)), (3, .int ((lsF σ v j).1 + (f_hours σ (σ 27 j)))), (4, .int (f_lightOf σ (σ 27 j))), (7, .int (σ 27 j)), (0, .ref (ma 0)), (1, .int v), (2, .int n), (5, .int (lsF σ v j).2.2)]) hx hb dX7_lasts_99 hl (k := 7) rfl rfl (by decide) rfl (fun ls hl => ?_)
              refine lv_goto (tgt := 21) hx hb dX7_lasts_102 (by decide) ?_
              have e_23 : ((lsF σ v (j + 1)).1 : Int32) = ((lsF σ v j).1 + (f_hours σ (σ 27 j))) := (by first | rw [lsF_c (by first | exact Or.inl ⟨by assumption, by assumption⟩ | exact Or.inr ⟨by assumption, by assumption⟩)] | rw [lsF_n (by rintro (⟨q1, q2⟩ | ⟨q1, q2⟩) <;> first | exact q1 (by assumption) | exact q2 (by assumption) | exact absurd q2 (by assumption))])
              have e_24 : ((lsF σ v (j + 1)).2.1 : Int32) = (f_lightOf σ (σ 27 j)) := (by first | rw [lsF_c (by first | exact Or.inl ⟨by assumption, by assumption⟩ | exact Or.inr ⟨by assumption, by assumption⟩)] | rw [lsF_n (by rintro (⟨q1, q2⟩ | ⟨q1, q2⟩) <;> first | exact q1 (by assumption) | exact q2 (by assumption) | exact absurd q2 (by assumption))])
              have e_25 : ((lsF σ v (j + 1)).2.2 : Int32) = (lsF σ v j).2.2 := (by first | rw [lsF_c (by first | exact Or.inl ⟨by assumption, by assumption⟩ | exact Or.inr ⟨by assumption, by assumption⟩)] | rw [lsF_n (by rintro (⟨q1, q2⟩ | ⟨q1, q2⟩) <;> first | exact q1 (by assumption) | exact q2 (by assumption) | exact absurd q2 (by assumption))])
              have e_26 : ((nI (j + 1)) : Int32) = ((nI j) + 1) := (nI_1 j).symm
              have hl2 : lv_has ls 8 [(0, .ref (ma 0)), (1, .int v), (2, .int n), (3, .int (lsF σ v (j + 1)).1), (4, .int (lsF σ v (j + 1)).2.1), (5, .int (lsF σ v (j + 1)).2.2), (6, .int (nI (j + 1)))] := by
                rw [e_23, e_24, e_25, e_26]
                exact lv_sub hl [4, 5, 6, 1, 2, 7, 0] rfl
              exact ih_21 (j + 1) (by omega) (by omega) ls hl2
            · refine lv_iload hx hb dX7_lasts_59 (lv_at hl 6 rfl) ?_
              refine lv_aload_n hx hb dX7_lasts_61 rfl (lv_at hl 1 rfl) ?_
              refine m_get (v := .ref (ma 9)) hx hb hts hinX7 hown hK hM 9 (by decide) lk23 rfl dX7_lasts_62 ?_
              refine lv_aload_n hx hb dX7_lasts_65 rfl (lv_at hl 1 rfl) ?_
              refine m_get (v := .ref (ma 14)) hx hb hts hinX7 hown hK hM 14 (by decide) lk38 rfl dX7_lasts_66 ?_
              refine lv_iload hx hb dX7_lasts_69 (lv_at hl 0 rfl) ?_
              refine m_iald (x := (σ 14 (ti (σ 27 j)))) hx hb hK hM 14 (by decide) rfl (i := (σ 27 j)) (n := 24) (lot24 hI kj) rfl dX7_lasts_71 ?_
              refine m_iald (x := (σ 9 (ti (σ 14 (ti (σ 27 j)))))) hx hb hK hM 9 (by decide) rfl (i := (σ 14 (ti (σ 27 j)))) (n := 6) (od6 hI (ordO hI kj)) rfl dX7_lasts_72 ?_
              refine lv_icmp_eq (tgt := 82) hx hb dX7_lasts_73 (by decide) (fun c_27 => ?_) (fun c_27 => ?_)
              · refine lv_aload_n hx hb dX7_lasts_82 rfl (lv_at hl 1 rfl) ?_
                refine lv_iload hx hb dX7_lasts_83 (lv_at hl 0 rfl) ?_
                refine mc_ro (n := 1) (As := [.int (σ 27 j)]) (rest := []) (v := [.int (f_lightOf σ (σ 27 j))]) ⟨hx, hb, hml, hown, hts⟩ hK hM (k_lightOf la g ma σ u (σ 27 j) hI kj) gX7_lasts_X7_lightOf rfl rfl rfl (by decide +kernel) ⟨Nat.le_of_ble_eq_true rfl, Nat.le_of_ble_eq_true rfl⟩ rfl hl.1 rfl (Nat.le_of_ble_eq_true rfl) dX7_lasts_85 ⟨Nat.zero_le _, Nat.zero_le _⟩ rfl ?_
                refine lv_istore (lv' := [(4, .int (f_lightOf σ (σ 27 j))), (7, .int (σ 27 j)), (0, .ref (ma 0)), (1, .int v), (2, .int n), (3, .int (lsF σ v j).1), (5, .int (lsF σ v j).2.2), (6, .int (nI j))]) hx hb dX7_lasts_88 hl (by decide) rfl (fun ls hl => ?_)
                refine lv_iload_n hx hb dX7_lasts_90 rfl (lv_at hl 5 rfl) ?_
                refine lv_aload_n hx hb dX7_lasts_91 rfl (lv_at hl 2 rfl) ?_
                refine lv_iload hx hb dX7_lasts_92 (lv_at hl 1 rfl) ?_
                refine mc_ro (n := 1) (As := [.int (σ 27 j)]) (rest := [.int (lsF σ v j).1]) (v := [.int (f_hours σ (σ 27 j))]) ⟨hx, hb, hml, hown, hts⟩ hK hM (k_hours la g ma σ u (σ 27 j) (lot24 hI kj)) gX7_lasts_X7_hours rfl rfl rfl (by decide +kernel) ⟨Nat.le_of_ble_eq_true rfl, Nat.le_of_ble_eq_true rfl⟩ rfl hl.1 rfl (Nat.le_of_ble_eq_true rfl) dX7_lasts_94 ⟨Nat.zero_le _, Nat.zero_le _⟩ rfl ?_
                refine lv_iadd hx hb dX7_lasts_97 ?_
                refine lv_istore_n (lv' := [(3, .int ((lsF σ v j).1 + (f_hours σ (σ 27 j)))), (4, .int (f_lightOf σ (σ 27 j))), (7, .int (σ 27 j)), (0, .ref (ma 0)), (1, .int v), (2, .int n), (5, .int (lsF σ v j).2.2), (6, .int (nI j))]) hx hb dX7_lasts_98 rfl hl (by decide) rfl (fun ls hl => ?_)
                refine lv_iinc (v := ((nI j) + 1)) (lv' := [(6, .int ((nI j) + 1)), (3, .int ((lsF σ v j).1 + (f_hours σ (σ 27 j)))), (4, .int (f_lightOf σ (σ 27 j))), (7, .int (σ 27 j)), (0, .ref (ma 0)), (1, .int v), (2, .int n), (5, .int (lsF σ v j).2.2)]) hx hb dX7_lasts_99 hl (k := 7) rfl rfl (by decide) rfl (fun ls hl => ?_)
                refine lv_goto (tgt := 21) hx hb dX7_lasts_102 (by decide) ?_
                have e_28 : ((lsF σ v (j + 1)).1 : Int32) = ((lsF σ v j).1 + (f_hours σ (σ 27 j))) := (by first | rw [lsF_c (by first | exact Or.inl ⟨by assumption, by assumption⟩ | exact Or.inr ⟨by assumption, by assumption⟩)] | rw [lsF_n (by rintro (⟨q1, q2⟩ | ⟨q1, q2⟩) <;> first | exact q1 (by assumption) | exact q2 (by assumption) | exact absurd q2 (by assumption))])
                have e_29 : ((lsF σ v (j + 1)).2.1 : Int32) = (f_lightOf σ (σ 27 j)) := (by first | rw [lsF_c (by first | exact Or.inl ⟨by assumption, by assumption⟩ | exact Or.inr ⟨by assumption, by assumption⟩)] | rw [lsF_n (by rintro (⟨q1, q2⟩ | ⟨q1, q2⟩) <;> first | exact q1 (by assumption) | exact q2 (by assumption) | exact absurd q2 (by assumption))])
                have e_30 : ((lsF σ v (j + 1)).2.2 : Int32) = (lsF σ v j).2.2 := (by first | rw [lsF_c (by first | exact Or.inl ⟨by assumption, by assumption⟩ | exact Or.inr ⟨by assumption, by assumption⟩)] | rw [lsF_n (by rintro (⟨q1, q2⟩ | ⟨q1, q2⟩) <;> first | exact q1 (by assumption) | exact q2 (by assumption) | exact absurd q2 (by assumption))])
                have e_31 : ((nI (j + 1)) : Int32) = ((nI j) + 1) := (nI_1 j).symm
                have hl2 : lv_has ls 8 [(0, .ref (ma 0)), (1, .int v), (2, .int n), (3, .int (lsF σ v (j + 1)).1), (4, .int (lsF σ v (j + 1)).2.1), (5, .int (lsF σ v (j + 1)).2.2), (6, .int (nI (j + 1)))] := by
                  rw [e_28, e_29, e_30, e_31]
                  exact lv_sub hl [4, 5, 6, 1, 2, 7, 0] rfl
                exact ih_21 (j + 1) (by omega) (by omega) ls hl2
              · refine lv_iinc (v := ((lsF σ v j).1 + 3)) (lv' := [(3, .int ((lsF σ v j).1 + 3)), (7, .int (σ 27 j)), (0, .ref (ma 0)), (1, .int v), (2, .int n), (4, .int (lsF σ v j).2.1), (5, .int (lsF σ v j).2.2), (6, .int (nI j))]) hx hb dX7_lasts_76 hl (k := 4) rfl rfl (by decide) rfl (fun ls hl => ?_)
                refine lv_iconst (v := (-1)) hx hb dX7_lasts_79 (by decide) ?_
                refine lv_istore (lv' := [(5, .int (-1)), (3, .int ((lsF σ v j).1 + 3)), (7, .int (σ 27 j)), (0, .ref (ma 0)), (1, .int v), (2, .int n), (4, .int (lsF σ v j).2.1), (6, .int (nI j))]) hx hb dX7_lasts_80 hl (by decide) rfl (fun ls hl => ?_)
                refine lv_aload_n hx hb dX7_lasts_82 rfl (lv_at hl 3 rfl) ?_
                refine lv_iload hx hb dX7_lasts_83 (lv_at hl 2 rfl) ?_
                refine mc_ro (n := 1) (As := [.int (σ 27 j)]) (rest := []) (v := [.int (f_lightOf σ (σ 27 j))]) ⟨hx, hb, hml, hown, hts⟩ hK hM (k_lightOf la g ma σ u (σ 27 j) hI kj) gX7_lasts_X7_lightOf rfl rfl rfl (by decide +kernel) ⟨Nat.le_of_ble_eq_true rfl, Nat.le_of_ble_eq_true rfl⟩ rfl hl.1 rfl (Nat.le_of_ble_eq_true rfl) dX7_lasts_85 ⟨Nat.zero_le _, Nat.zero_le _⟩ rfl ?_
                refine lv_istore (lv' := [(4, .int (f_lightOf σ (σ 27 j))), (5, .int (-1)), (3, .int ((lsF σ v j).1 + 3)), (7, .int (σ 27 j)), (0, .ref (ma 0)), (1, .int v), (2, .int n), (6, .int (nI j))]) hx hb dX7_lasts_88 hl (by decide) rfl (fun ls hl => ?_)
                refine lv_iload_n hx hb dX7_lasts_90 rfl (lv_at hl 2 rfl) ?_
                refine lv_aload_n hx hb dX7_lasts_91 rfl (lv_at hl 4 rfl) ?_
                refine lv_iload hx hb dX7_lasts_92 (lv_at hl 3 rfl) ?_
                refine mc_ro (n := 1) (As := [.int (σ 27 j)]) (rest := [.int ((lsF σ v j).1 + 3)]) (v := [.int (f_hours σ (σ 27 j))]) ⟨hx, hb, hml, hown, hts⟩ hK hM (k_hours la g ma σ u (σ 27 j) (lot24 hI kj)) gX7_lasts_X7_hours rfl rfl rfl (by decide +kernel) ⟨Nat.le_of_ble_eq_true rfl, Nat.le_of_ble_eq_true rfl⟩ rfl hl.1 rfl (Nat.le_of_ble_eq_true rfl) dX7_lasts_94 ⟨Nat.zero_le _, Nat.zero_le _⟩ rfl ?_
                refine lv_iadd hx hb dX7_lasts_97 ?_
                refine lv_istore_n (lv' := [(3, .int (((lsF σ v j).1 + 3) + (f_hours σ (σ 27 j)))), (4, .int (f_lightOf σ (σ 27 j))), (5, .int (-1)), (7, .int (σ 27 j)), (0, .ref (ma 0)), (1, .int v), (2, .int n), (6, .int (nI j))]) hx hb dX7_lasts_98 rfl hl (by decide) rfl (fun ls hl => ?_)
                refine lv_iinc (v := ((nI j) + 1)) (lv' := [(6, .int ((nI j) + 1)), (3, .int (((lsF σ v j).1 + 3) + (f_hours σ (σ 27 j)))), (4, .int (f_lightOf σ (σ 27 j))), (5, .int (-1)), (7, .int (σ 27 j)), (0, .ref (ma 0)), (1, .int v), (2, .int n)]) hx hb dX7_lasts_99 hl (k := 7) rfl rfl (by decide) rfl (fun ls hl => ?_)
                refine lv_goto (tgt := 21) hx hb dX7_lasts_102 (by decide) ?_
                have e_32 : ((lsF σ v (j + 1)).1 : Int32) = (((lsF σ v j).1 + 3) + (f_hours σ (σ 27 j))) := (by first | rw [lsF_c (by first | exact Or.inl ⟨by assumption, by assumption⟩ | exact Or.inr ⟨by assumption, by assumption⟩)] | rw [lsF_n (by rintro (⟨q1, q2⟩ | ⟨q1, q2⟩) <;> first | exact q1 (by assumption) | exact q2 (by assumption) | exact absurd q2 (by assumption))])
                have e_33 : ((lsF σ v (j + 1)).2.1 : Int32) = (f_lightOf σ (σ 27 j)) := (by first | rw [lsF_c (by first | exact Or.inl ⟨by assumption, by assumption⟩ | exact Or.inr ⟨by assumption, by assumption⟩)] | rw [lsF_n (by rintro (⟨q1, q2⟩ | ⟨q1, q2⟩) <;> first | exact q1 (by assumption) | exact q2 (by assumption) | exact absurd q2 (by assumption))])
                have e_34 : ((lsF σ v (j + 1)).2.2 : Int32) = (-1) := (by first | rw [lsF_c (by first | exact Or.inl ⟨by assumption, by assumption⟩ | exact Or.inr ⟨by assumption, by assumption⟩)] | rw [lsF_n (by rintro (⟨q1, q2⟩ | ⟨q1, q2⟩) <;> first | exact q1 (by assumption) | exact q2 (by assumption) | exact absurd q2 (by assumption))])
                have e_35 : ((nI (j + 1)) : Int32) = ((nI j) + 1) := (nI_1 j).symm
                have hl2 : lv_has ls 8 [(0, .ref (ma 0)), (1, .int v), (2, .int n), (3, .int (lsF σ v (j + 1)).1), (4, .int (lsF σ v (j + 1)).2.1), (5, .int (lsF σ v (j + 1)).2.2), (6, .int (nI (j + 1)))] := by
                  rw [e_32, e_33, e_34, e_35]
                  exact lv_sub hl [5, 6, 7, 1, 2, 3, 0] rfl
                exact ih_21 (j + 1) (by omega) (by omega) ls hl2
  have e_36 : ((lsF σ v (0)).1 : Int32) = 0 := (by first | rfl | (simp [-Int32.not_lt, -Int32.not_le, okL, okV, okO, okR, okD, isP, shP, f_cust]; done) | (simp_all [-Int32.not_lt, -Int32.not_le, okL, okV, okO, okR, okD, isP, shP, f_cust]; done))
  have e_37 : ((lsF σ v (0)).2.1 : Int32) = (σ 23 (ti v)) := (by first | rfl | (simp [-Int32.not_lt, -Int32.not_le, okL, okV, okO, okR, okD, isP, shP, f_cust]; done) | (simp_all [-Int32.not_lt, -Int32.not_le, okL, okV, okO, okR, okD, isP, shP, f_cust]; done))
  have e_38 : ((lsF σ v (0)).2.2 : Int32) = (σ 24 (ti v)) := (by first | rfl | (simp [-Int32.not_lt, -Int32.not_le, okL, okV, okO, okR, okD, isP, shP, f_cust]; done) | (simp_all [-Int32.not_lt, -Int32.not_le, okL, okV, okO, okR, okD, isP, shP, f_cust]; done))
  have e_39 : ((nI (0)) : Int32) = 0 := (by first | rfl | (simp [-Int32.not_lt, -Int32.not_le, okL, okV, okO, okR, okD, isP, shP, f_cust]; done) | (simp_all [-Int32.not_lt, -Int32.not_le, okL, okV, okO, okR, okD, isP, shP, f_cust]; done))
  have hl2 : lv_has ls 8 [(0, .ref (ma 0)), (1, .int v), (2, .int n), (3, .int (lsF σ v (0)).1), (4, .int (lsF σ v (0)).2.1), (5, .int (lsF σ v (0)).2.2), (6, .int (nI (0)))] := by
    rw [e_36, e_37, e_38, e_39]
    exact lv_sub hl [4, 5, 6, 3, 2, 1, 0] rfl
  exact lp21 (N - 0 + 1) (0) (Nat.zero_le _) (Nat.lt_succ_self _) ls hl2
