theorem tw_inX6_addRecipe_3 : ∀ w ∈ (vx_at0 RX6 58 (en 3) exN).filter goodWord, w ∈ wsX6_addRecipe := by decide +kernel
set_option maxHeartbeats 4000000 in
set_option maxRecDepth 100000 in
theorem qX6_addRecipe (la : Launch) (hst : la.stackTraces = false) (g : EG) (lo : Nat) (ad : Nat → Nat → Nat) (σ : Sg) (u : Nat → Int64) (τ : Sg) (hI : INV σ) (hA : XA lo ad σ) (n0 : Nat) (a b d : Int32) : vx_Met la yX6_addRecipe wsX6_addRecipe ({ frames := 8, cells := 6, slots := 26, locals := 144 } : Room) (va_Pc [.ref (ad 0 0), .int a, .int b, .int d] (fun U => XR g ad σ u τ U.heap ∧ EV g lo U ∧ n0 ≤ U.heap.size)) (QXM (exOf 2 3 0 (t_addRecipe σ a b d)) (.returned (some (.int (σ 1 0)))) (fun H9 => XG g lo n0 ad σ (F_addRecipe σ a b d) u τ H9) (xown ad σ)) (XX (exOf 2 3 0 (t_addRecipe σ a b d))) 6 26 (fun q => lo ≤ q) := by
  refine vx_ofW (cc := cX6_addRecipe) (maxL := 4) (ret := (some .int)) (by decide) rfl ?_
  intro p e s m args below meth c s₁ B hml ht hv
  obtain ⟨rfl, hX, hE, hn0⟩ := hv
  have hK := hE.1
  have hx := B.exec
  have hb := B.bytes
  have hr := B.returns
  have hts := atoms_spec (ws := wsX6_addRecipe) B.pre
  have hown : s.vm.findClass RX6 = some m.cls := findClass_of_methodNamed B.named
  have hlocks := B.notSynchronized
  have hinX3 : ∀ w ∈ wsX30, w ∈ wsX6_addRecipe := by decide +kernel
  have hinX4 : ∀ w ∈ wsX40, w ∈ wsX6_addRecipe := by decide +kernel
  have hinX6 : ∀ w ∈ wsX60, w ∈ wsX6_addRecipe := by decide +kernel
  have cl59 := hts (.classLink RX6 59 RX4) (by decide +kernel)
  have cl9 := hts (.classLink RX6 9 RX3) (by decide +kernel)
  have icX3 := hts (.initialized RX3) (by decide +kernel)
  have icX4 := hts (.initialized RX4) (by decide +kernel)
  have inX3 := hts (.instanceMethod yX3_init) (by decide +kernel)
  have inX4 := hts (.instanceMethod yX4_init) (by decide +kernel)
  have isX3 := hts (.instantiable RX3 2) (by decide +kernel)
  have isX4 := hts (.instantiable RX4 3) (by decide +kernel)
  have lk11 := hts (.fieldLink RX6 11 "DyehouseLedger" "allRecipes" "[LDyehouseLedger$Recipe;") (by decide +kernel)
  have lk52 := hts (.fieldLink RX6 52 "DyehouseLedger" "recipeCount" "I") (by decide +kernel)
  have ml61 := hts (.methodLink RX6 61 yX4_init) (by decide +kernel)
  have ml63 := hts (.methodLink RX6 63 yX3_init) (by decide +kernel)
  have ti3 := hts (.initialized "java/lang/IllegalStateException") (by decide +kernel)
  have tk3 := hts (.classLink RX6 56 "java/lang/IllegalStateException") (by decide +kernel)
  have tw3 : ∀ w ∈ (vx_at0 RX6 58 (en 3) exN).filter goodWord, w.before _ s = true := fun w h => hts w (tw_inX6_addRecipe_3 w h)
  have hl := lv_entry ([.ref (ad 0 0), .int a, .int b, .int d]) (n := 4) (Nat.le_of_ble_eq_true rfl)
  rw [lg_entry_eq]
  generalize (lg_sl ([.ref (ad 0 0), .int a, .int b, .int d]) ++ List.replicate (4 - (lg_sl ([.ref (ad 0 0), .int a, .int b, .int d])).length) Slot.unset).toArray = ls at hl ⊢
  have hl : lv_has ls 4 [(0, .ref (ad 0 0)), (1, .int a), (2, .int b), (3, .int d)] := hl
  have hbL := hI.l.1
  have hbO := hI.o.1
  have hbV := hI.v.1
  have hge0 := cnt_ge0 (M := 8) hI.1.1 (by decide)
  refine lv_iload_n hx hb dX6_addRecipe_0 rfl (lv_at hl 1 rfl) ?_
  refine lv_iload_n hx hb dX6_addRecipe_1 rfl (lv_at hl 2 rfl) ?_
  refine lv_iload_n hx hb dX6_addRecipe_2 rfl (lv_at hl 3 rfl) ?_
  refine xc_s (n := 3) (As := [.int a, .int b, .int d]) (rest := []) (v := []) ⟨hx, hb, hml, hown, hts⟩ hE ht hlocks (fun q => by have h9 : ¬ (shP a b d) := fun z => q (show eSh a b d = 0 from if_pos z); exact (show (exOf 2 3 0 (t_addRecipe σ a b d)) = 2 from by rw [show (t_addRecipe σ a b d) = 1 from (by simp only [t_addVat, t_addLot, t_addOrder, t_addRecipe]; (repeat' split) <;> first | rfl | contradiction | (exfalso; simp_all [-Int32.not_lt, -Int32.not_le]; done))]; rfl).trans (show eSh a b d = 2 from if_neg h9).symm) (qX6_checkShade la hst g lo a b d) gX6_addRecipe_X6_checkShade rfl rfl rfl (by decide +kernel) ⟨Nat.le_of_ble_eq_true rfl, Nat.le_of_ble_eq_true rfl⟩ rfl hl.1 rfl (Nat.le_of_ble_eq_true rfl) dX6_addRecipe_3 ⟨Nat.le_of_ble_eq_true rfl, Nat.le_of_ble_eq_true rfl⟩ ⟨Nat.le_of_ble_eq_true rfl, Nat.le_of_ble_eq_true rfl⟩ (fun _ => rfl) (fun h_2 => ?_)
  have kc_1 : shP a b d := Decidable.byContradiction fun z => absurd (show eSh a b d = 0 from h_2) (by rw [show eSh a b d = 2 from if_neg z]; decide)
  refine lv_aload_n hx hb dX6_addRecipe_6 rfl (lv_at hl 0 rfl) ?_
  refine x_get (K := 0) (i := 0) (v := .int (σ 1 0)) hx hb hts hinX6 hown hK hX (show 0 < 1 from Nat.zero_lt_one) 7 rfl rfl (by decide) rfl lk52 rfl dX6_addRecipe_7 ?_
  refine lv_if_lt (tgt := 25) hx hb dX6_addRecipe_10 (by decide) (fun c_3 => ?_) (fun c_3 => ?_)
  · exact x_throw (k9 := 3) (ic := 58) hx hb hst hown hE ht hlocks (hl.1.trans hml.symm) (fun _ _ _ => trivial) (by decide) tk3 ti3 tw3 bad3 good3 (by decide) (show (exOf 2 3 0 (t_addRecipe σ a b d)) = 3 from by rw [show (t_addRecipe σ a b d) = 2 from (by simp only [t_addVat, t_addLot, t_addOrder, t_addRecipe]; (repeat' split) <;> first | rfl | contradiction | (exfalso; simp_all [-Int32.not_lt, -Int32.not_le]; done))]; rfl) dX6_addRecipe_25 dX6_addRecipe_28 dX6_addRecipe_29 dX6_addRecipe_32 (Nat.le_of_ble_eq_true rfl) (Nat.le_of_ble_eq_true rfl) (Nat.le_of_ble_eq_true rfl) (Nat.le_of_ble_eq_true rfl) (Nat.le_of_ble_eq_true rfl) (Nat.le_of_ble_eq_true rfl)
  · refine lv_aload_n hx hb dX6_addRecipe_13 rfl (lv_at hl 0 rfl) ?_
    refine x_get (K := 0) (i := 0) (v := .int (σ 1 0)) hx hb hts hinX6 hown hK hX (show 0 < 1 from Nat.zero_lt_one) 7 rfl rfl (by decide) rfl lk52 rfl dX6_addRecipe_14 ?_
    refine lv_aload_n hx hb dX6_addRecipe_17 rfl (lv_at hl 0 rfl) ?_
    refine x_get (K := 0) (i := 0) (v := .ref (ad 1 0)) hx hb hts hinX6 hown hK hX (show 0 < 1 from Nat.zero_lt_one) 0 rfl rfl (by decide) rfl lk11 rfl dX6_addRecipe_18 ?_
    refine x_alen (K := 1) (t0 := 5) (v := 8) hx hb hK hX (show 0 < 1 from Nat.zero_lt_one) rfl rfl rfl dX6_addRecipe_21 ?_
    refine lv_icmp_lt (tgt := 33) hx hb dX6_addRecipe_22 (by decide) (fun c_4 => ?_) (fun c_4 => ?_)
    · have hlt9 := cnt_ltM (M := 8) hI.1.1 (by decide) c_4
      have hne9 : ¬ σ 1 0 = 8 := hlt9.1
      replace hlt9 := hlt9.2
      refine lv_aload_n hx hb dX6_addRecipe_33 rfl (lv_at hl 0 rfl) ?_
      refine x_get (K := 0) (i := 0) (v := .ref (ad 1 0)) hx hb hts hinX6 hown hK hX (show 0 < 1 from Nat.zero_lt_one) 0 rfl rfl (by decide) rfl lk11 rfl dX6_addRecipe_34 ?_
      refine lv_aload_n hx hb dX6_addRecipe_37 rfl (lv_at hl 0 rfl) ?_
      refine x_get (K := 0) (i := 0) (v := .int (σ 1 0)) hx hb hts hinX6 hown hK hX (show 0 < 1 from Nat.zero_lt_one) 7 rfl rfl (by decide) rfl lk52 rfl dX6_addRecipe_38 ?_
      have hX0 := hX
      refine sp_newB (b0 := s.heap.size) rfl (C := RX3) (T := TX3) (N := 2) (ci := 5) (fs := [.null, .null]) hx hb hts hinX3 tyX3 tyX3_ok hown cl9 isX3 icX3 hK rfl (by decide +kernel) (Nat.le_of_ble_eq_true rfl) (Nat.le_of_ble_eq_true rfl) dX6_addRecipe_41 (fun H1 hN hN2 hN3 => ?_)
      have hold := hN3
      have hX := hX.more hN3
      have hz := hN2
      have hlc : ∀ z ∈ ([] : List Loc), lo ≤ z.base := fun z h => nomatch h
      have hlo : lo ≤ s.heap.size := Nat.le_trans (hA.2 0 0 Nat.zero_lt_one) (Nat.le_of_lt (hX0 0 0 Nat.zero_lt_one).lt)
      refine lv_dup hx hb dX6_addRecipe_44 rfl ?_
      refine sp_newB (b0 := s.heap.size + 1) hz (C := RX4) (T := TX4) (N := 3) (ci := 6) (fs := [.int 0, .int 0, .int 0]) hx hb hts hinX4 tyX4 tyX4_ok hown cl59 isX4 icX4 hK rfl (by decide +kernel) (Nat.le_of_ble_eq_true rfl) (Nat.le_of_ble_eq_true rfl) dX6_addRecipe_45 (fun H1 hM hM2 hM3 => ?_)
      have hN := hN.kept (hM3 _ (by omega))
      have hold := fun q (q1 : q < s.heap.size) => (hM3 q (by omega)).trans (hold q q1)
      have hX := hX0.more hold
      have hz := hM2
      refine lv_dup hx hb dX6_addRecipe_48 rfl ?_
      refine lv_iload_n hx hb dX6_addRecipe_49 rfl (lv_at hl 1 rfl) ?_
      refine lv_iload_n hx hb dX6_addRecipe_50 rfl (lv_at hl 2 rfl) ?_
      refine lv_iload_n hx hb dX6_addRecipe_51 rfl (lv_at hl 3 rfl) ?_
      refine ctor_call (n := 3) (rest := [.ref (s.heap.size + 1), .ref s.heap.size, .ref s.heap.size, .int (σ 1 0), .ref (ad 1 0)]) (As := [.int a, .int b, .int d]) ⟨hx, hb, hml, hown, hts⟩ (qX4_init la g lo (s.heap.size + 1) (Nat.le_succ_of_le hlo) a b d) (fun U hU hW => ⟨by rw [hU]; exact hM, va_K.moved hW.alike hK⟩) (fun u9 a9 g9 mk q => ⟨q.1, va_K.moved (u := u9) (U := u9.calling g9 mk a9) (Vm.Alike.refl u9.vm) q.2⟩) gX6_addRecipe_X4_init rfl rfl rfl icX4 ml61 inX4 rfl (by decide +kernel) ⟨Nat.le_of_ble_eq_true rfl, Nat.le_of_ble_eq_true rfl⟩ rfl hl.1 rfl (Nat.le_of_ble_eq_true rfl) dX6_addRecipe_52 ⟨Nat.le_of_ble_eq_true rfl, Nat.le_of_ble_eq_true rfl⟩ hlc (fun H1 locs1 h1 h2 h3 hlc => ?_)
      have hN := hN.kept (h3 _ (by rw [hz]; omega) (by omega))
      have hM := h1
      have hold := fun q (q1 : q < s.heap.size) => (h3 q (by rw [hz]; omega) (by omega)).trans (hold q q1)
      have hX := hX0.more hold
      have hz : Array.size _ = s.heap.size + 2 := h2.trans (congrArg (· + _) hz)
      refine ctor_call (n := 1) (rest := [.ref s.heap.size, .int (σ 1 0), .ref (ad 1 0)]) (As := [.ref (s.heap.size + 1)]) ⟨hx, hb, hml, hown, hts⟩ (qX3_init la g lo s.heap.size hlo (s.heap.size + 1)) (fun U hU hW => ⟨by rw [hU]; exact hN, va_K.moved hW.alike hK⟩) (fun u9 a9 g9 mk q => ⟨q.1, va_K.moved (u := u9) (U := u9.calling g9 mk a9) (Vm.Alike.refl u9.vm) q.2⟩) gX6_addRecipe_X3_init rfl rfl rfl icX3 ml63 inX3 rfl (by decide +kernel) ⟨Nat.le_of_ble_eq_true rfl, Nat.le_of_ble_eq_true rfl⟩ rfl hl.1 rfl (Nat.le_of_ble_eq_true rfl) dX6_addRecipe_55 ⟨Nat.le_of_ble_eq_true rfl, Nat.le_of_ble_eq_true rfl⟩ hlc (fun H1 locs1 h1 h2 h3 hlc => ?_)
      rw [hz] at h1
      have hold := fun q (q1 : q < s.heap.size) => (h3 q (by rw [hz]; omega) (by omega)).trans (hold q q1)
      have hM := hM.kept (h3 _ (by rw [hz]; omega) (by omega))
      have hX := hX0.more hold
      have hz := h2.trans (congrArg (· + _) hz)
      have hN := h1
      refine sp_aast (H := _) hx hb hK 5 5 (show va_at g.1 vwCl (ad 1 0, .inl (g.2 5, 8, .inr (.inr (.inr (.inr (refA ad 12 (nR σ))))))) _ from hX 1 0 Nat.zero_lt_one) rfl hN.1 rfl (vp_in_cnt hlt9 (by decide)) dX6_addRecipe_58 (fun H1 j1 a1 a2 a3 => ?_)
      have h00 : va_at g.1 vwCl (ad 0 0, .inr (8, [.ref (ad 1 0), .ref (ad 2 0), .ref (ad 3 0), .ref (ad 4 0), .ref (ad 5 0), .ref (ad 6 0), .ref (ad 7 0), .int (σ 1 0), .int (σ 2 0), .int (σ 3 0), .int (σ 4 0)])) H1 := (hX 0 0 Nat.zero_lt_one).kept (a3 _ (fun q => absurd (hA.1 0 0 1 0 Nat.zero_lt_one Nat.zero_lt_one q).1 (by decide)))
      have hlc := locA (j := j1) hlc (hA.2 1 0 Nat.zero_lt_one)
      refine lv_aload_n hx hb dX6_addRecipe_59 rfl (lv_at hl 0 rfl) ?_
      refine lv_dup hx hb dX6_addRecipe_60 rfl ?_
      refine va_get (ref := RX6) (C := RX6) (T := TX6) (N := 11) (ci := 8) (v := .int (σ 1 0)) hx hb hts hinX6 hown hK (sp_one h00) 0 rfl rfl 7 (by decide) lk52 (fun _ h => h) rfl dX6_addRecipe_61 ?_
      refine lv_dup_x1 hx hb dX6_addRecipe_64 rfl rfl ?_
      refine lv_iconst (v := 1) hx hb dX6_addRecipe_65 (by decide) ?_
      refine lv_iadd hx hb dX6_addRecipe_66 ?_
      refine sp_put (ref := RX6) (C := RX6) (T := TX6) (N := 11) (ci := 8) (ty := .int) (v := .int ((σ 1 0) + 1)) hx hb hts hinX6 tyX6 tyX6_ok nmX6 hown hK h00 rfl 7 (by decide) lk52 (fun _ h => h) rfl (by decide +kernel) rfl rfl (show 7 < 11 from by decide) dX6_addRecipe_67 (fun H1 j2 b1 b2 b3 => ?_)
      have hlc := locA (j := j2) hlc (hA.2 0 0 Nat.zero_lt_one)
      refine vx_ret ?_
      refine W.widen (k := 6) (n := 26) (Nat.le_of_ble_eq_true rfl) (Nat.le_of_ble_eq_true rfl) ?_
      have hkeep := fun q (q1 : q < s.heap.size) (q2 : q ≠ ad 1 0) (q3 : q ≠ ad 0 0) => (b3 q q3).trans ((a3 q q2).trans (hold q q1))
      have hsz := b2.trans (a2.trans hz)
      have ha5 := a1.kept (b3 _ (fun q => absurd (hA.1 1 0 0 0 Nat.zero_lt_one Nat.zero_lt_one q).1 (by decide)))
      have hn5 := (hN.1.kept (a3 _ (fun q => by have := (hX0 1 0 Nat.zero_lt_one).lt; omega))).kept (b3 _ (fun q => by have := (hX0 0 0 Nat.zero_lt_one).lt; omega))
      have hn6 := (hM.kept (a3 _ (fun q => by have := (hX0 1 0 Nat.zero_lt_one).lt; omega))).kept (b3 _ (fun q => by have := (hX0 0 0 Nat.zero_lt_one).lt; omega))
      have hn7 := (hN.2.kept (a3 _ (fun q => by have := (hX0 1 0 Nat.zero_lt_one).lt; omega))).kept (b3 _ (fun q => by have := (hX0 0 0 Nat.zero_lt_one).lt; omega))
      have hG9 : XG g lo n0 ad σ (F_addRecipe σ a b d) u τ H1 := by unfold F_addRecipe; rw [if_pos (show (t_addRecipe σ a b d) = 0 from (by simp only [t_addVat, t_addLot, t_addOrder, t_addRecipe]; (repeat' split) <;> first | rfl | contradiction | (exfalso; simp_all [-Int32.not_lt, -Int32.not_le]; done))), rec_ix hI]; exact grow_rec hn0 hI hA hX0 hlt9 hn5 hn6 hn7 ha5 b1 hkeep
      exact W.iret (v := (σ 1 0)) hx hb hr (fun t ht9 hW => ⟨(show (exOf 2 3 0 (t_addRecipe σ a b d)) = 0 from by rw [show (t_addRecipe σ a b d) = 0 from (by simp only [t_addVat, t_addLot, t_addOrder, t_addRecipe]; (repeat' split) <;> first | rfl | contradiction | (exfalso; simp_all [-Int32.not_lt, -Int32.not_le]; done))]; rfl), rfl, by rw [ht9]; exact hG9, by rw [ht9, hsz]; omega, fun q q1 q2 => by rw [ht9]; exact hkeep q q1 (fun z => q2 ⟨1, 0, Nat.zero_lt_one, z⟩) (fun z => q2 ⟨0, 0, Nat.zero_lt_one, z⟩)⟩) hlc dX6_addRecipe_70
    · have heq9 : σ 1 0 = 8 := cnt_geM (M := 8) hI.1.1 (by decide) c_4
      exact x_throw (k9 := 3) (ic := 58) hx hb hst hown hE ht hlocks (hl.1.trans hml.symm) (fun _ _ _ => trivial) (by decide) tk3 ti3 tw3 bad3 good3 (by decide) (show (exOf 2 3 0 (t_addRecipe σ a b d)) = 3 from by rw [show (t_addRecipe σ a b d) = 2 from (by simp only [t_addVat, t_addLot, t_addOrder, t_addRecipe]; (repeat' split) <;> first | rfl | contradiction | (exfalso; simp_all [-Int32.not_lt, -Int32.not_le]; done))]; rfl) dX6_addRecipe_25 dX6_addRecipe_28 dX6_addRecipe_29 dX6_addRecipe_32 (Nat.le_of_ble_eq_true rfl) (Nat.le_of_ble_eq_true rfl) (Nat.le_of_ble_eq_true rfl) (Nat.le_of_ble_eq_true rfl) (Nat.le_of_ble_eq_true rfl) (Nat.le_of_ble_eq_true rfl)
