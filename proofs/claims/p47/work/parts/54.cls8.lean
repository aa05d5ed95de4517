theorem tw_inX6_addLot_3 : ∀ w ∈ (vx_at0 RX6 58 (en 3) exN).filter goodWord, w ∈ wsX6_addLot := by decide +kernel
set_option maxHeartbeats 4000000 in
set_option maxRecDepth 100000 in
theorem qX6_addLot (la : Launch) (hst : la.stackTraces = false) (g : EG) (lo : Nat) (ad : Nat → Nat → Nat) (σ : Sg) (u : Nat → Int64) (τ : Sg) (hI : INV σ) (hA : XA lo ad σ) (n0 : Nat) (o x : Int32) : vx_Met la yX6_addLot wsX6_addLot ({ frames := 7, cells := 4, slots := 24, locals := 122 } : Room) (va_Pc [.ref (ad 0 0), .int o, .int x] (fun U => XR g ad σ u τ U.heap ∧ EV g lo U ∧ n0 ≤ U.heap.size)) (QXM (exOf 1 2 3 (t_addLot σ o x)) (.returned (some (.int (σ 3 0)))) (fun H9 => XG g lo n0 ad σ (F_addLot σ o x) u τ H9) (xown ad σ)) (XX (exOf 1 2 3 (t_addLot σ o x))) 4 24 (fun q => lo ≤ q) := by
  refine vx_ofW (cc := cX6_addLot) (maxL := 4) (ret := (some .int)) (by decide) rfl ?_
  intro p e s m args below meth c s₁ B hml ht hv
  obtain ⟨rfl, hX, hE, hn0⟩ := hv
  have hK := hE.1
  have hx := B.exec
  have hb := B.bytes
  have hr := B.returns
  have hts := atoms_spec (ws := wsX6_addLot) B.pre
  have hown : s.vm.findClass RX6 = some m.cls := findClass_of_methodNamed B.named
  have hlocks := B.notSynchronized
  have hinX0 : ∀ w ∈ wsX00, w ∈ wsX6_addLot := by decide +kernel
  have hinX6 : ∀ w ∈ wsX60, w ∈ wsX6_addLot := by decide +kernel
  have cl21 := hts (.classLink RX6 21 RX0) (by decide +kernel)
  have icX0 := hts (.initialized RX0) (by decide +kernel)
  have inX0 := hts (.instanceMethod yX0_init) (by decide +kernel)
  have isX0 := hts (.instantiable RX0 9) (by decide +kernel)
  have lk23 := hts (.fieldLink RX6 23 "DyehouseLedger" "allLots" "[LDyehouseLedger$Lot;") (by decide +kernel)
  have lk95 := hts (.fieldLink RX6 95 "DyehouseLedger" "lotCount" "I") (by decide +kernel)
  have ml98 := hts (.methodLink RX6 98 yX0_init) (by decide +kernel)
  have ti3 := hts (.initialized "java/lang/IllegalStateException") (by decide +kernel)
  have tk3 := hts (.classLink RX6 56 "java/lang/IllegalStateException") (by decide +kernel)
  have tw3 : ∀ w ∈ (vx_at0 RX6 58 (en 3) exN).filter goodWord, w.before _ s = true := fun w h => hts w (tw_inX6_addLot_3 w h)
  have hl := lv_entry ([.ref (ad 0 0), .int o, .int x]) (n := 4) (Nat.le_of_ble_eq_true rfl)
  rw [lg_entry_eq]
  generalize (lg_sl ([.ref (ad 0 0), .int o, .int x]) ++ List.replicate (4 - (lg_sl ([.ref (ad 0 0), .int o, .int x])).length) Slot.unset).toArray = ls at hl ⊢
  have hl : lv_has ls 4 [(0, .ref (ad 0 0)), (1, .int o), (2, .int x)] := hl
  have hbL := hI.l.1
  have hbO := hI.o.1
  have hbV := hI.v.1
  have hge0 := cnt_ge0 (M := 24) hI.1.2.2.1 (by decide)
  by_cases ko9 : okO σ o
  · obtain ⟨a, ha, rfl⟩ := vp_in_of ((okO_in hI o).mp ko9) (Nat.lt_of_le_of_lt hI.o.1 (by decide))
    have hba : nO σ ≤ _ := hI.o.1
    have eta : ti (nI a) = a := ti_nI (by omega)
    refine lv_aload_n hx hb dX6_addLot_0 rfl (lv_at hl 0 rfl) ?_
    refine lv_iload_n hx hb dX6_addLot_1 rfl (lv_at hl 1 rfl) ?_
    refine xc_v (n := 1) (As := [.int (nI a)]) (rest := []) (v := [.ref (ad 15 a)]) ⟨hx, hb, hml, hown, hts⟩ hE hX ht hlocks (fun q => absurd (show eO σ (nI a) = 0 from if_pos ko9) q) (qX6_orderNumbered la hst g lo ad σ u τ hI (nI a)) gX6_addLot_X6_orderNumbered rfl rfl rfl (by decide +kernel) ⟨Nat.le_of_ble_eq_true rfl, Nat.le_of_ble_eq_true rfl⟩ rfl hl.1 rfl (Nat.le_of_ble_eq_true rfl) dX6_addLot_2 ⟨Nat.le_of_ble_eq_true rfl, Nat.le_of_ble_eq_true rfl⟩ ⟨Nat.le_of_ble_eq_true rfl, Nat.le_of_ble_eq_true rfl⟩ (fun _ => congrArg (fun z => [Value.ref (ad 15 z)]) (ti_nI (by omega))) (fun h_1 => ?_)
    refine lv_astore_n (lv' := [(3, .ref (ad 15 a)), (0, .ref (ad 0 0)), (1, .int (nI a)), (2, .int x)]) hx hb dX6_addLot_5 rfl hl (by decide) rfl (fun ls hl => ?_)
    refine lv_iload_n hx hb dX6_addLot_6 rfl (lv_at hl 3 rfl) ?_
    refine lv_iconst (v := 1) hx hb dX6_addLot_7 (by decide) ?_
    refine lv_sipush (v := 200) hx hb dX6_addLot_8 (by decide) ?_
    refine xc_s (n := 3) (As := [.int x, .int 1, .int 200]) (rest := []) (v := []) ⟨hx, hb, hml, hown, hts⟩ hE ht hlocks (fun q => by have h9 : ¬ (isP x 1 200) := fun z => q (show eRg x 1 200 = 0 from if_pos z); exact (show (exOf 1 2 3 (t_addLot σ (nI a) x)) = 2 from by rw [show (t_addLot σ (nI a) x) = 2 from (by simp only [t_addVat, t_addLot, t_addOrder, t_addRecipe, eta]; (repeat' split) <;> first | rfl | contradiction | (exfalso; simp_all [-Int32.not_lt, -Int32.not_le]; done))]; rfl).trans (show eRg x 1 200 = 2 from if_neg h9).symm) (qX6_checkRange la hst g lo x 1 200) gX6_addLot_X6_checkRange rfl rfl rfl (by decide +kernel) ⟨Nat.le_of_ble_eq_true rfl, Nat.le_of_ble_eq_true rfl⟩ rfl hl.1 rfl (Nat.le_of_ble_eq_true rfl) dX6_addLot_11 ⟨Nat.le_of_ble_eq_true rfl, Nat.le_of_ble_eq_true rfl⟩ ⟨Nat.le_of_ble_eq_true rfl, Nat.le_of_ble_eq_true rfl⟩ (fun _ => rfl) (fun h_3 => ?_)
    have kc_2 : isP x 1 200 := Decidable.byContradiction fun z => absurd (show eRg x 1 200 = 0 from h_3) (by rw [show eRg x 1 200 = 2 from if_neg z]; decide)
    refine lv_aload_n hx hb dX6_addLot_14 rfl (lv_at hl 1 rfl) ?_
    refine x_get (K := 0) (i := 0) (v := .int (σ 3 0)) hx hb hts hinX6 hown hK hX (show 0 < 1 from Nat.zero_lt_one) 9 rfl rfl (by decide) rfl lk95 rfl dX6_addLot_15 ?_
    refine lv_if_lt (tgt := 33) hx hb dX6_addLot_18 (by decide) (fun c_4 => ?_) (fun c_4 => ?_)
    · exact x_throw (k9 := 3) (ic := 58) hx hb hst hown hE ht hlocks (hl.1.trans hml.symm) (fun _ _ _ => trivial) (by decide) tk3 ti3 tw3 bad3 good3 (by decide) (show (exOf 1 2 3 (t_addLot σ (nI a) x)) = 3 from by rw [show (t_addLot σ (nI a) x) = 3 from (by simp only [t_addVat, t_addLot, t_addOrder, t_addRecipe, eta]; (repeat' split) <;> first | rfl | contradiction | (exfalso; simp_all [-Int32.not_lt, -Int32.not_le]; done))]; rfl) dX6_addLot_33 dX6_addLot_36 dX6_addLot_37 dX6_addLot_40 (Nat.le_of_ble_eq_true rfl) (Nat.le_of_ble_eq_true rfl) (Nat.le_of_ble_eq_true rfl) (Nat.le_of_ble_eq_true rfl) (Nat.le_of_ble_eq_true rfl) (Nat.le_of_ble_eq_true rfl)
    · refine lv_aload_n hx hb dX6_addLot_21 rfl (lv_at hl 1 rfl) ?_
      refine x_get (K := 0) (i := 0) (v := .int (σ 3 0)) hx hb hts hinX6 hown hK hX (show 0 < 1 from Nat.zero_lt_one) 9 rfl rfl (by decide) rfl lk95 rfl dX6_addLot_22 ?_
      refine lv_aload_n hx hb dX6_addLot_25 rfl (lv_at hl 1 rfl) ?_
      refine x_get (K := 0) (i := 0) (v := .ref (ad 3 0)) hx hb hts hinX6 hown hK hX (show 0 < 1 from Nat.zero_lt_one) 2 rfl rfl (by decide) rfl lk23 rfl dX6_addLot_26 ?_
      refine x_alen (K := 3) (t0 := 3) (v := 24) hx hb hK hX (show 0 < 1 from Nat.zero_lt_one) rfl rfl rfl dX6_addLot_29 ?_
      refine lv_icmp_lt (tgt := 41) hx hb dX6_addLot_30 (by decide) (fun c_5 => ?_) (fun c_5 => ?_)
      · have hlt9 := cnt_ltM (M := 24) hI.1.2.2.1 (by decide) c_5
        have hne9 : ¬ σ 3 0 = 24 := hlt9.1
        replace hlt9 := hlt9.2
        refine lv_aload_n hx hb dX6_addLot_41 rfl (lv_at hl 1 rfl) ?_
        refine x_get (K := 0) (i := 0) (v := .ref (ad 3 0)) hx hb hts hinX6 hown hK hX (show 0 < 1 from Nat.zero_lt_one) 2 rfl rfl (by decide) rfl lk23 rfl dX6_addLot_42 ?_
        refine lv_aload_n hx hb dX6_addLot_45 rfl (lv_at hl 1 rfl) ?_
        refine x_get (K := 0) (i := 0) (v := .int (σ 3 0)) hx hb hts hinX6 hown hK hX (show 0 < 1 from Nat.zero_lt_one) 9 rfl rfl (by decide) rfl lk95 rfl dX6_addLot_46 ?_
        have hX0 := hX
        refine sp_newB (b0 := s.heap.size) rfl (C := RX0) (T := TX0) (N := 9) (ci := 2) (fs := [.int 0, .null, .int 0, .null, .int 0, .null, .int 0, .int 0, .null]) hx hb hts hinX0 tyX0 tyX0_ok hown cl21 isX0 icX0 hK rfl (by decide +kernel) (Nat.le_of_ble_eq_true rfl) (Nat.le_of_ble_eq_true rfl) dX6_addLot_49 (fun H1 hN hN2 hN3 => ?_)
        have hold := hN3
        have hX := hX.more hN3
        have hz := hN2
        have hlc : ∀ z ∈ ([] : List Loc), lo ≤ z.base := fun z h => nomatch h
        have hlo : lo ≤ s.heap.size := Nat.le_trans (hA.2 0 0 Nat.zero_lt_one) (Nat.le_of_lt (hX0 0 0 Nat.zero_lt_one).lt)
        refine lv_dup hx hb dX6_addLot_52 rfl ?_
        refine lv_aload_n hx hb dX6_addLot_53 rfl (lv_at hl 1 rfl) ?_
        refine x_get (K := 0) (i := 0) (v := .int (σ 3 0)) hx hb hts hinX6 hown hK hX (show 0 < 1 from Nat.zero_lt_one) 9 rfl rfl (by decide) rfl lk95 rfl dX6_addLot_54 ?_
        refine lv_aload_n hx hb dX6_addLot_57 rfl (lv_at hl 0 rfl) ?_
        refine lv_iload_n hx hb dX6_addLot_58 rfl (lv_at hl 3 rfl) ?_
        refine ctor_call (n := 3) (rest := [.ref s.heap.size, .int (σ 3 0), .ref (ad 3 0)]) (As := [.int (σ 3 0), .ref (ad 15 a), .int x]) ⟨hx, hb, hml, hown, hts⟩ (qX0_init la g lo s.heap.size hlo (σ 3 0) (ad 15 a) x) (fun U hU hW => ⟨by rw [hU]; exact hN, va_K.moved hW.alike hK⟩) (fun u9 a9 g9 mk q => ⟨q.1, va_K.moved (u := u9) (U := u9.calling g9 mk a9) (Vm.Alike.refl u9.vm) q.2⟩) gX6_addLot_X0_init rfl rfl rfl icX0 ml98 inX0 rfl (by decide +kernel) ⟨Nat.le_of_ble_eq_true rfl, Nat.le_of_ble_eq_true rfl⟩ rfl hl.1 rfl (Nat.le_of_ble_eq_true rfl) dX6_addLot_59 ⟨Nat.le_of_ble_eq_true rfl, Nat.le_of_ble_eq_true rfl⟩ hlc (fun H1 locs1 h1 h2 h3 hlc => ?_)
        rw [hz] at h1
        have hold := fun q (q1 : q < s.heap.size) => (h3 q (by rw [hz]; omega) (by omega)).trans (hold q q1)
        have hX := hX0.more hold
        have hz := h2.trans (congrArg (· + _) hz)
        have hN := h1
        refine sp_aast (H := _) hx hb hK 3 2 (show va_at g.1 vwCl (ad 3 0, .inl (g.2 3, 24, .inr (.inr (.inr (.inr (refA ad 16 (nL σ))))))) _ from hX 3 0 Nat.zero_lt_one) rfl hN.1 rfl (vp_in_cnt hlt9 (by decide)) dX6_addLot_62 (fun H1 j1 a1 a2 a3 => ?_)
        have h00 : va_at g.1 vwCl (ad 0 0, .inr (8, [.ref (ad 1 0), .ref (ad 2 0), .ref (ad 3 0), .ref (ad 4 0), .ref (ad 5 0), .ref (ad 6 0), .ref (ad 7 0), .int (σ 1 0), .int (σ 2 0), .int (σ 3 0), .int (σ 4 0)])) H1 := (hX 0 0 Nat.zero_lt_one).kept (a3 _ (fun q => absurd (hA.1 0 0 3 0 Nat.zero_lt_one Nat.zero_lt_one q).1 (by decide)))
        have hlc := locA (j := j1) hlc (hA.2 3 0 Nat.zero_lt_one)
        refine lv_aload_n hx hb dX6_addLot_63 rfl (lv_at hl 1 rfl) ?_
        refine lv_dup hx hb dX6_addLot_64 rfl ?_
        refine va_get (ref := RX6) (C := RX6) (T := TX6) (N := 11) (ci := 8) (v := .int (σ 3 0)) hx hb hts hinX6 hown hK (sp_one h00) 0 rfl rfl 9 (by decide) lk95 (fun _ h => h) rfl dX6_addLot_65 ?_
        refine lv_dup_x1 hx hb dX6_addLot_68 rfl rfl ?_
        refine lv_iconst (v := 1) hx hb dX6_addLot_69 (by decide) ?_
        refine lv_iadd hx hb dX6_addLot_70 ?_
        refine sp_put (ref := RX6) (C := RX6) (T := TX6) (N := 11) (ci := 8) (ty := .int) (v := .int ((σ 3 0) + 1)) hx hb hts hinX6 tyX6 tyX6_ok nmX6 hown hK h00 rfl 9 (by decide) lk95 (fun _ h => h) rfl (by decide +kernel) rfl rfl (show 9 < 11 from by decide) dX6_addLot_71 (fun H1 j2 b1 b2 b3 => ?_)
        have hlc := locA (j := j2) hlc (hA.2 0 0 Nat.zero_lt_one)
        refine vx_ret ?_
        refine W.widen (k := 4) (n := 24) (Nat.le_of_ble_eq_true rfl) (Nat.le_of_ble_eq_true rfl) ?_
        have hkeep := fun q (q1 : q < s.heap.size) (q2 : q ≠ ad 3 0) (q3 : q ≠ ad 0 0) => (b3 q q3).trans ((a3 q q2).trans (hold q q1))
        have hsz := b2.trans (a2.trans hz)
        have ha5 := a1.kept (b3 _ (fun q => absurd (hA.1 3 0 0 0 Nat.zero_lt_one Nat.zero_lt_one q).1 (by decide)))
        have hn5 := (hN.1.kept (a3 _ (fun q => by have := (hX0 3 0 Nat.zero_lt_one).lt; omega))).kept (b3 _ (fun q => by have := (hX0 0 0 Nat.zero_lt_one).lt; omega))
        have hn6 := (hN.2.kept (a3 _ (fun q => by have := (hX0 3 0 Nat.zero_lt_one).lt; omega))).kept (b3 _ (fun q => by have := (hX0 0 0 Nat.zero_lt_one).lt; omega))
        have hG9 : XG g lo n0 ad σ (F_addLot σ (nI a) x) u τ H1 := by unfold F_addLot; rw [if_pos (show (t_addLot σ (nI a) x) = 0 from (by simp only [t_addVat, t_addLot, t_addOrder, t_addRecipe]; (repeat' split) <;> first | rfl | contradiction | (exfalso; simp_all [-Int32.not_lt, -Int32.not_le]; done)))]; exact grow_lot hn0 hI hA hX0 hlt9 (vin_nI ha (by omega)) (by rw [eta]; exact hn5) hn6 ha5 b1 hkeep
        exact W.iret (v := (σ 3 0)) hx hb hr (fun t ht9 hW => ⟨(show (exOf 1 2 3 (t_addLot σ (nI a) x)) = 0 from by rw [show (t_addLot σ (nI a) x) = 0 from (by simp only [t_addVat, t_addLot, t_addOrder, t_addRecipe, eta]; (repeat' split) <;> first | rfl | contradiction | (exfalso; simp_all [-Int32.not_lt, -Int32.not_le]; done))]; rfl), rfl, by rw [ht9]; exact hG9, by rw [ht9, hsz]; omega, fun q q1 q2 => by rw [ht9]; exact hkeep q q1 (fun z => q2 ⟨3, 0, Nat.zero_lt_one, z⟩) (fun z => q2 ⟨0, 0, Nat.zero_lt_one, z⟩)⟩) hlc dX6_addLot_74
      · have heq9 : σ 3 0 = 24 := cnt_geM (M := 24) hI.1.2.2.1 (by decide) c_5
        exact x_throw (k9 := 3) (ic := 58) hx hb hst hown hE ht hlocks (hl.1.trans hml.symm) (fun _ _ _ => trivial) (by decide) tk3 ti3 tw3 bad3 good3 (by decide) (show (exOf 1 2 3 (t_addLot σ (nI a) x)) = 3 from by rw [show (t_addLot σ (nI a) x) = 3 from (by simp only [t_addVat, t_addLot, t_addOrder, t_addRecipe, eta]; (repeat' split) <;> first | rfl | contradiction | (exfalso; simp_all [-Int32.not_lt, -Int32.not_le]; done))]; rfl) dX6_addLot_33 dX6_addLot_36 dX6_addLot_37 dX6_addLot_40 (Nat.le_of_ble_eq_true rfl) (Nat.le_of_ble_eq_true rfl) (Nat.le_of_ble_eq_true rfl) (Nat.le_of_ble_eq_true rfl) (Nat.le_of_ble_eq_true rfl) (Nat.le_of_ble_eq_true rfl)
  · refine lv_aload_n hx hb dX6_addLot_0 rfl (lv_at hl 0 rfl) ?_
    refine lv_iload_n hx hb dX6_addLot_1 rfl (lv_at hl 1 rfl) ?_
    refine xc_v (n := 1) (As := [.int o]) (rest := []) (v := [.ref (ad 15 (ti o))]) ⟨hx, hb, hml, hown, hts⟩ hE hX ht hlocks (fun _ => ((show (exOf 1 2 3 (t_addLot σ o x)) = 1 from by rw [show (t_addLot σ o x) = 1 from (by simp only [t_addVat, t_addLot, t_addOrder, t_addRecipe]; (repeat' split) <;> first | rfl | contradiction | (exfalso; simp_all [-Int32.not_lt, -Int32.not_le]; done))]; rfl)).trans (show eO σ o = 1 from if_neg ko9).symm) (qX6_orderNumbered la hst g lo ad σ u τ hI o) gX6_addLot_X6_orderNumbered rfl rfl rfl (by decide +kernel) ⟨Nat.le_of_ble_eq_true rfl, Nat.le_of_ble_eq_true rfl⟩ rfl hl.1 rfl (Nat.le_of_ble_eq_true rfl) dX6_addLot_2 ⟨Nat.le_of_ble_eq_true rfl, Nat.le_of_ble_eq_true rfl⟩ ⟨Nat.le_of_ble_eq_true rfl, Nat.le_of_ble_eq_true rfl⟩ (fun _ => rfl) (fun h_7 => ?_)
    exact absurd h_7 (by rw [show eO σ o = 1 from if_neg ko9]; decide)
