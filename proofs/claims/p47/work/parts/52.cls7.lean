theorem tw_inX6_addVat_3 : ∀ w ∈ (vx_at0 RX6 58 (en 3) exN).filter goodWord, w ∈ wsX6_addVat := by decide +kernel
set_option maxHeartbeats 4000000 in
set_option maxRecDepth 100000 in
theorem qX6_addVat (la : Launch) (hst : la.stackTraces = false) (g : EG) (lo : Nat) (ad : Nat → Nat → Nat) (σ : Sg) (u : Nat → Int64) (τ : Sg) (hI : INV σ) (hA : XA lo ad σ) (n0 : Nat) (x : Int32) : vx_Met la yX6_addVat wsX6_addVat ({ frames := 7, cells := 2, slots := 12, locals := 122 } : Room) (va_Pc [.ref (ad 0 0), .int x] (fun U => XR g ad σ u τ U.heap ∧ EV g lo U ∧ n0 ≤ U.heap.size)) (QXM (exOf 2 3 0 (t_addVat σ x)) (.returned (some (.int (σ 4 0)))) (fun H9 => XG g lo n0 ad σ (F_addVat σ x) u τ H9) (xown ad σ)) (XX (exOf 2 3 0 (t_addVat σ x))) 2 12 (fun q => lo ≤ q) := by
  refine vx_ofW (cc := cX6_addVat) (maxL := 2) (ret := (some .int)) (by decide) rfl ?_
  intro p e s m args below meth c s₁ B hml ht hv
  obtain ⟨rfl, hX, hE, hn0⟩ := hv
  have hK := hE.1
  have hx := B.exec
  have hb := B.bytes
  have hr := B.returns
  have hts := atoms_spec (ws := wsX6_addVat) B.pre
  have hown : s.vm.findClass RX6 = some m.cls := findClass_of_methodNamed B.named
  have hlocks := B.notSynchronized
  have hinX5 : ∀ w ∈ wsX50, w ∈ wsX6_addVat := by decide +kernel
  have hinX6 : ∀ w ∈ wsX60, w ∈ wsX6_addVat := by decide +kernel
  have cl27 := hts (.classLink RX6 27 RX5) (by decide +kernel)
  have icX5 := hts (.initialized RX5) (by decide +kernel)
  have inX5 := hts (.instanceMethod yX5_init) (by decide +kernel)
  have isX5 := hts (.instantiable RX5 6) (by decide +kernel)
  have lk101 := hts (.fieldLink RX6 101 "DyehouseLedger" "vatCount" "I") (by decide +kernel)
  have lk29 := hts (.fieldLink RX6 29 "DyehouseLedger" "allVats" "[LDyehouseLedger$Vat;") (by decide +kernel)
  have ml104 := hts (.methodLink RX6 104 yX5_init) (by decide +kernel)
  have ti3 := hts (.initialized "java/lang/IllegalStateException") (by decide +kernel)
  have tk3 := hts (.classLink RX6 56 "java/lang/IllegalStateException") (by decide +kernel)
  have tw3 : ∀ w ∈ (vx_at0 RX6 58 (en 3) exN).filter goodWord, w.before _ s = true := fun w h => hts w (tw_inX6_addVat_3 w h)
  have hl := lv_entry ([.ref (ad 0 0), .int x]) (n := 2) (Nat.le_of_ble_eq_true rfl)
  rw [lg_entry_eq]
  generalize (lg_sl ([.ref (ad 0 0), .int x]) ++ List.replicate (2 - (lg_sl ([.ref (ad 0 0), .int x])).length) Slot.unset).toArray = ls at hl ⊢
  have hl : lv_has ls 2 [(0, .ref (ad 0 0)), (1, .int x)] := hl
  have hbL := hI.l.1
  have hbO := hI.o.1
  have hbV := hI.v.1
  have hge0 := cnt_ge0 (M := 4) hI.1.2.2.2 (by decide)
  refine lv_iload_n hx hb dX6_addVat_0 rfl (lv_at hl 1 rfl) ?_
  refine lv_bipush (v := 10) hx hb dX6_addVat_1 (by decide) ?_
  refine lv_sipush (v := 300) hx hb dX6_addVat_3 (by decide) ?_
  refine xc_s (n := 3) (As := [.int x, .int 10, .int 300]) (rest := []) (v := []) ⟨hx, hb, hml, hown, hts⟩ hE ht hlocks (fun q => by have h9 : ¬ (isP x 10 300) := fun z => q (show eRg x 10 300 = 0 from if_pos z); exact (show (exOf 2 3 0 (t_addVat σ x)) = 2 from by rw [show (t_addVat σ x) = 1 from (by simp only [t_addVat, t_addLot, t_addOrder, t_addRecipe]; (repeat' split) <;> first | rfl | contradiction | (exfalso; simp_all [-Int32.not_lt, -Int32.not_le]; done))]; rfl).trans (show eRg x 10 300 = 2 from if_neg h9).symm) (qX6_checkRange la hst g lo x 10 300) gX6_addVat_X6_checkRange rfl rfl rfl (by decide +kernel) ⟨Nat.le_of_ble_eq_true rfl, Nat.le_of_ble_eq_true rfl⟩ rfl hl.1 rfl (Nat.le_of_ble_eq_true rfl) dX6_addVat_6 ⟨Nat.le_of_ble_eq_true rfl, Nat.le_of_ble_eq_true rfl⟩ ⟨Nat.le_of_ble_eq_true rfl, Nat.le_of_ble_eq_true rfl⟩ (fun _ => rfl) (fun h_2 => ?_)
  have kc_1 : isP x 10 300 := Decidable.byContradiction fun z => absurd (show eRg x 10 300 = 0 from h_2) (by rw [show eRg x 10 300 = 2 from if_neg z]; decide)
  refine lv_aload_n hx hb dX6_addVat_9 rfl (lv_at hl 0 rfl) ?_
  refine x_get (K := 0) (i := 0) (v := .int (σ 4 0)) hx hb hts hinX6 hown hK hX (show 0 < 1 from Nat.zero_lt_one) 10 rfl rfl (by decide) rfl lk101 rfl dX6_addVat_10 ?_
  refine lv_if_lt (tgt := 28) hx hb dX6_addVat_13 (by decide) (fun c_3 => ?_) (fun c_3 => ?_)
  · exact x_throw (k9 := 3) (ic := 58) hx hb hst hown hE ht hlocks (hl.1.trans hml.symm) (fun _ _ _ => trivial) (by decide) tk3 ti3 tw3 bad3 good3 (by decide) (show (exOf 2 3 0 (t_addVat σ x)) = 3 from by rw [show (t_addVat σ x) = 2 from (by simp only [t_addVat, t_addLot, t_addOrder, t_addRecipe]; (repeat' split) <;> first | rfl | contradiction | (exfalso; simp_all [-Int32.not_lt, -Int32.not_le]; done))]; rfl) dX6_addVat_28 dX6_addVat_31 dX6_addVat_32 dX6_addVat_35 (Nat.le_of_ble_eq_true rfl) (Nat.le_of_ble_eq_true rfl) (Nat.le_of_ble_eq_true rfl) (Nat.le_of_ble_eq_true rfl) (Nat.le_of_ble_eq_true rfl) (Nat.le_of_ble_eq_true rfl)
  · refine lv_aload_n hx hb dX6_addVat_16 rfl (lv_at hl 0 rfl) ?_
    refine x_get (K := 0) (i := 0) (v := .int (σ 4 0)) hx hb hts hinX6 hown hK hX (show 0 < 1 from Nat.zero_lt_one) 10 rfl rfl (by decide) rfl lk101 rfl dX6_addVat_17 ?_
    refine lv_aload_n hx hb dX6_addVat_20 rfl (lv_at hl 0 rfl) ?_
    refine x_get (K := 0) (i := 0) (v := .ref (ad 4 0)) hx hb hts hinX6 hown hK hX (show 0 < 1 from Nat.zero_lt_one) 3 rfl rfl (by decide) rfl lk29 rfl dX6_addVat_21 ?_
    refine x_alen (K := 4) (t0 := 6) (v := 4) hx hb hK hX (show 0 < 1 from Nat.zero_lt_one) rfl rfl rfl dX6_addVat_24 ?_
    refine lv_icmp_lt (tgt := 36) hx hb dX6_addVat_25 (by decide) (fun c_4 => ?_) (fun c_4 => ?_)
    · have hlt9 := cnt_ltM (M := 4) hI.1.2.2.2 (by decide) c_4
      have hne9 : ¬ σ 4 0 = 4 := hlt9.1
      replace hlt9 := hlt9.2
      refine lv_aload_n hx hb dX6_addVat_36 rfl (lv_at hl 0 rfl) ?_
      refine x_get (K := 0) (i := 0) (v := .ref (ad 4 0)) hx hb hts hinX6 hown hK hX (show 0 < 1 from Nat.zero_lt_one) 3 rfl rfl (by decide) rfl lk29 rfl dX6_addVat_37 ?_
      refine lv_aload_n hx hb dX6_addVat_40 rfl (lv_at hl 0 rfl) ?_
      refine x_get (K := 0) (i := 0) (v := .int (σ 4 0)) hx hb hts hinX6 hown hK hX (show 0 < 1 from Nat.zero_lt_one) 10 rfl rfl (by decide) rfl lk101 rfl dX6_addVat_41 ?_
      have hX0 := hX
      refine sp_newB (b0 := s.heap.size) rfl (C := RX5) (T := TX5) (N := 6) (ci := 7) (fs := [.int 0, .int 0, .int 0, .int 0, .int 0, .int 0]) hx hb hts hinX5 tyX5 tyX5_ok hown cl27 isX5 icX5 hK rfl (by decide +kernel) (Nat.le_of_ble_eq_true rfl) (Nat.le_of_ble_eq_true rfl) dX6_addVat_44 (fun H1 hN hN2 hN3 => ?_)
      have hold := hN3
      have hX := hX.more hN3
      have hz := hN2
      have hlc : ∀ z ∈ ([] : List Loc), lo ≤ z.base := fun z h => nomatch h
      have hlo : lo ≤ s.heap.size := Nat.le_trans (hA.2 0 0 Nat.zero_lt_one) (Nat.le_of_lt (hX0 0 0 Nat.zero_lt_one).lt)
      refine lv_dup hx hb dX6_addVat_47 rfl ?_
      refine lv_aload_n hx hb dX6_addVat_48 rfl (lv_at hl 0 rfl) ?_
      refine x_get (K := 0) (i := 0) (v := .int (σ 4 0)) hx hb hts hinX6 hown hK hX (show 0 < 1 from Nat.zero_lt_one) 10 rfl rfl (by decide) rfl lk101 rfl dX6_addVat_49 ?_
      refine lv_iload_n hx hb dX6_addVat_52 rfl (lv_at hl 1 rfl) ?_
      refine ctor_call (n := 2) (rest := [.ref s.heap.size, .int (σ 4 0), .ref (ad 4 0)]) (As := [.int (σ 4 0), .int x]) ⟨hx, hb, hml, hown, hts⟩ (qX5_init la g lo s.heap.size hlo (σ 4 0) x) (fun U hU hW => ⟨by rw [hU]; exact hN, va_K.moved hW.alike hK⟩) (fun u9 a9 g9 mk q => ⟨q.1, va_K.moved (u := u9) (U := u9.calling g9 mk a9) (Vm.Alike.refl u9.vm) q.2⟩) gX6_addVat_X5_init rfl rfl rfl icX5 ml104 inX5 rfl (by decide +kernel) ⟨Nat.le_of_ble_eq_true rfl, Nat.le_of_ble_eq_true rfl⟩ rfl hl.1 rfl (Nat.le_of_ble_eq_true rfl) dX6_addVat_53 ⟨Nat.le_of_ble_eq_true rfl, Nat.le_of_ble_eq_true rfl⟩ hlc (fun H1 locs1 h1 h2 h3 hlc => ?_)
      have hold := fun q (q1 : q < s.heap.size) => (h3 q (by rw [hz]; omega) (by omega)).trans (hold q q1)
      have hX := hX0.more hold
      have hz := h2.trans (congrArg (· + _) hz)
      have hN := h1
      refine sp_aast (H := _) hx hb hK 6 7 (show va_at g.1 vwCl (ad 4 0, .inl (g.2 6, 4, .inr (.inr (.inr (.inr (refA ad 18 (nV σ))))))) _ from hX 4 0 Nat.zero_lt_one) rfl hN rfl (vp_in_cnt hlt9 (by decide)) dX6_addVat_56 (fun H1 j1 a1 a2 a3 => ?_)
      have h00 : va_at g.1 vwCl (ad 0 0, .inr (8, [.ref (ad 1 0), .ref (ad 2 0), .ref (ad 3 0), .ref (ad 4 0), .ref (ad 5 0), .ref (ad 6 0), .ref (ad 7 0), .int (σ 1 0), .int (σ 2 0), .int (σ 3 0), .int (σ 4 0)])) H1 := (hX 0 0 Nat.zero_lt_one).kept (a3 _ (fun q => absurd (hA.1 0 0 4 0 Nat.zero_lt_one Nat.zero_lt_one q).1 (by decide)))
      have hlc := locA (j := j1) hlc (hA.2 4 0 Nat.zero_lt_one)
      refine lv_aload_n hx hb dX6_addVat_57 rfl (lv_at hl 0 rfl) ?_
      refine lv_dup hx hb dX6_addVat_58 rfl ?_
      refine va_get (ref := RX6) (C := RX6) (T := TX6) (N := 11) (ci := 8) (v := .int (σ 4 0)) hx hb hts hinX6 hown hK (sp_one h00) 0 rfl rfl 10 (by decide) lk101 (fun _ h => h) rfl dX6_addVat_59 ?_
      refine lv_dup_x1 hx hb dX6_addVat_62 rfl rfl ?_
      refine lv_iconst (v := 1) hx hb dX6_addVat_63 (by decide) ?_
      refine lv_iadd hx hb dX6_addVat_64 ?_
      refine sp_put (ref := RX6) (C := RX6) (T := TX6) (N := 11) (ci := 8) (ty := .int) (v := .int ((σ 4 0) + 1)) hx hb hts hinX6 tyX6 tyX6_ok nmX6 hown hK h00 rfl 10 (by decide) lk101 (fun _ h => h) rfl (by decide +kernel) rfl rfl (show 10 < 11 from by decide) dX6_addVat_65 (fun H1 j2 b1 b2 b3 => ?_)
      have hlc := locA (j := j2) hlc (hA.2 0 0 Nat.zero_lt_one)
      refine vx_ret ?_
      refine W.widen (k := 2) (n := 12) (Nat.le_of_ble_eq_true rfl) (Nat.le_of_ble_eq_true rfl) ?_
      have hkeep := fun q (q1 : q < s.heap.size) (q2 : q ≠ ad 4 0) (q3 : q ≠ ad 0 0) => (b3 q q3).trans ((a3 q q2).trans (hold q q1))
      have hsz := b2.trans (a2.trans hz)
      have ha5 := a1.kept (b3 _ (fun q => absurd (hA.1 4 0 0 0 Nat.zero_lt_one Nat.zero_lt_one q).1 (by decide)))
      have hn5 := (hN.kept (a3 _ (fun q => Nat.lt_irrefl _ (q ▸ (hX0 4 0 Nat.zero_lt_one).lt)))).kept (b3 _ (fun q => Nat.lt_irrefl _ (q ▸ (hX0 0 0 Nat.zero_lt_one).lt)))
      have hG9 : XG g lo n0 ad σ (F_addVat σ x) u τ H1 := by unfold F_addVat; rw [if_pos (show (t_addVat σ x) = 0 from (by simp only [t_addVat, t_addLot, t_addOrder, t_addRecipe]; (repeat' split) <;> first | rfl | contradiction | (exfalso; simp_all [-Int32.not_lt, -Int32.not_le]; done)))]; exact grow_vat hn0 hI hA hX0 hlt9 hn5 ha5 b1 hkeep
      exact W.iret (v := (σ 4 0)) hx hb hr (fun t ht9 hW => ⟨(show (exOf 2 3 0 (t_addVat σ x)) = 0 from by rw [show (t_addVat σ x) = 0 from (by simp only [t_addVat, t_addLot, t_addOrder, t_addRecipe]; (repeat' split) <;> first | rfl | contradiction | (exfalso; simp_all [-Int32.not_lt, -Int32.not_le]; done))]; rfl), rfl, by rw [ht9]; exact hG9, by rw [ht9, hsz]; omega, fun q q1 q2 => by rw [ht9]; exact hkeep q q1 (fun z => q2 ⟨4, 0, Nat.zero_lt_one, z⟩) (fun z => q2 ⟨0, 0, Nat.zero_lt_one, z⟩)⟩) hlc dX6_addVat_68
    · have heq9 : σ 4 0 = 4 := cnt_geM (M := 4) hI.1.2.2.2 (by decide) c_4
      exact x_throw (k9 := 3) (ic := 58) hx hb hst hown hE ht hlocks (hl.1.trans hml.symm) (fun _ _ _ => trivial) (by decide) tk3 ti3 tw3 bad3 good3 (by decide) (show (exOf 2 3 0 (t_addVat σ x)) = 3 from by rw [show (t_addVat σ x) = 2 from (by simp only [t_addVat, t_addLot, t_addOrder, t_addRecipe]; (repeat' split) <;> first | rfl | contradiction | (exfalso; simp_all [-Int32.not_lt, -Int32.not_le]; done))]; rfl) dX6_addVat_28 dX6_addVat_31 dX6_addVat_32 dX6_addVat_35 (Nat.le_of_ble_eq_true rfl) (Nat.le_of_ble_eq_true rfl) (Nat.le_of_ble_eq_true rfl) (Nat.le_of_ble_eq_true rfl) (Nat.le_of_ble_eq_true rfl) (Nat.le_of_ble_eq_true rfl)
theorem tw_inX6_addOrder_3 : ∀ w ∈ (vx_at0 RX6 58 (en 3) exN).filter goodWord, w ∈ wsX6_addOrder := by decide +kernel
set_option maxHeartbeats 4000000 in
set_option maxRecDepth 100000 in
theorem qX6_addOrder (la : Launch) (hst : la.stackTraces = false) (g : EG) (lo : Nat) (ad : Nat → Nat → Nat) (σ : Sg) (u : Nat → Int64) (τ : Sg) (hI : INV σ) (hA : XA lo ad σ) (n0 : Nat) (w9 r b d x : Int32) : vx_Met la yX6_addOrder wsX6_addOrder ({ frames := 8, cells := 6, slots := 36, locals := 142 } : Room) (va_Pc [.ref (ad 0 0), .int w9, .int r, .int b, .int d, .int x] (fun U => XR g ad σ u τ U.heap ∧ EV g lo U ∧ n0 ≤ U.heap.size)) (QXM (exOf 1 2 3 (t_addOrder σ w9 r b d x)) (.returned (some (.int (σ 2 0)))) (fun H9 => XG g lo n0 ad σ (F_addOrder σ w9 r b d x) u τ H9) (xown ad σ)) (XX (exOf 1 2 3 (t_addOrder σ w9 r b d x))) 6 36 (fun q => lo ≤ q) := by
  refine vx_ofW (cc := cX6_addOrder) (maxL := 7) (ret := (some .int)) (by decide) rfl ?_
  intro p e s m args below meth c s₁ B hml ht hv
  obtain ⟨rfl, hX, hE, hn0⟩ := hv
  have hK := hE.1
  have hx := B.exec
  have hb := B.bytes
  have hr := B.returns
  have hts := atoms_spec (ws := wsX6_addOrder) B.pre
  have hown : s.vm.findClass RX6 = some m.cls := findClass_of_methodNamed B.named
  have hlocks := B.notSynchronized
  have hinX1 : ∀ w ∈ wsX10, w ∈ wsX6_addOrder := by decide +kernel
  have hinX6 : ∀ w ∈ wsX60, w ∈ wsX6_addOrder := by decide +kernel
  have cl15 := hts (.classLink RX6 15 RX1) (by decide +kernel)
  have icX1 := hts (.initialized RX1) (by decide +kernel)
  have inX1 := hts (.instanceMethod yX1_init) (by decide +kernel)
  have isX1 := hts (.instantiable RX1 5) (by decide +kernel)
  have lk17 := hts (.fieldLink RX6 17 "DyehouseLedger" "allOrders" "[LDyehouseLedger$Order;") (by decide +kernel)
  have lk85 := hts (.fieldLink RX6 85 "DyehouseLedger" "orderCount" "I") (by decide +kernel)
  have ml88 := hts (.methodLink RX6 88 yX1_init) (by decide +kernel)
  have ti3 := hts (.initialized "java/lang/IllegalStateException") (by decide +kernel)
  have tk3 := hts (.classLink RX6 56 "java/lang/IllegalStateException") (by decide +kernel)
  have tw3 : ∀ w ∈ (vx_at0 RX6 58 (en 3) exN).filter goodWord, w.before _ s = true := fun w h => hts w (tw_inX6_addOrder_3 w h)
  have hl := lv_entry ([.ref (ad 0 0), .int w9, .int r, .int b, .int d, .int x]) (n := 7) (Nat.le_of_ble_eq_true rfl)
  rw [lg_entry_eq]
  generalize (lg_sl ([.ref (ad 0 0), .int w9, .int r, .int b, .int d, .int x]) ++ List.replicate (7 - (lg_sl ([.ref (ad 0 0), .int w9, .int r, .int b, .int d, .int x])).length) Slot.unset).toArray = ls at hl ⊢
  have hl : lv_has ls 7 [(0, .ref (ad 0 0)), (1, .int w9), (2, .int r), (3, .int b), (4, .int d), (5, .int x)] := hl
  have hbL := hI.l.1
  have hbO := hI.o.1
  have hbV := hI.v.1
  have hge0 := cnt_ge0 (M := 6) hI.1.2.1 (by decide)
  by_cases kr9 : okR σ r
  · obtain ⟨i, hi, rfl⟩ := vp_in_of ((okR_in hI r).mp kr9) (Nat.lt_of_le_of_lt hI.r.1 (by decide))
    have hbi : nR σ ≤ _ := hI.r.1
    have eti : ti (nI i) = i := ti_nI (by omega)
    refine lv_aload_n hx hb dX6_addOrder_0 rfl (lv_at hl 0 rfl) ?_
    refine lv_iload_n hx hb dX6_addOrder_1 rfl (lv_at hl 2 rfl) ?_
    refine xc_v (n := 1) (As := [.int (nI i)]) (rest := []) (v := [.ref (ad 12 i)]) ⟨hx, hb, hml, hown, hts⟩ hE hX ht hlocks (fun q => absurd (show eR σ (nI i) = 0 from if_pos kr9) q) (qX6_recipeNumbered la hst g lo ad σ u τ hI (nI i)) gX6_addOrder_X6_recipeNumbered rfl rfl rfl (by decide +kernel) ⟨Nat.le_of_ble_eq_true rfl, Nat.le_of_ble_eq_true rfl⟩ rfl hl.1 rfl (Nat.le_of_ble_eq_true rfl) dX6_addOrder_2 ⟨Nat.le_of_ble_eq_true rfl, Nat.le_of_ble_eq_true rfl⟩ ⟨Nat.le_of_ble_eq_true rfl, Nat.le_of_ble_eq_true rfl⟩ (fun _ => congrArg (fun z => [Value.ref (ad 12 z)]) (ti_nI (by omega))) (fun h_1 => ?_)
    refine lv_astore (lv' := [(6, .ref (ad 12 i)), (0, .ref (ad 0 0)), (1, .int w9), (2, .int (nI i)), (3, .int b), (4, .int d), (5, .int x)]) hx hb dX6_addOrder_5 hl (by decide) rfl (fun ls hl => ?_)
    refine lv_iload_n hx hb dX6_addOrder_7 rfl (lv_at hl 2 rfl) ?_
    refine xc_s (n := 1) (As := [.int w9]) (rest := []) (v := []) ⟨hx, hb, hml, hown, hts⟩ hE ht hlocks (fun q => by have h9 : ¬ (isP w9 0 3) := fun z => q (show eC w9 = 0 from if_pos z); exact (show (exOf 1 2 3 (t_addOrder σ w9 (nI i) b d x)) = 2 from by rw [show (t_addOrder σ w9 (nI i) b d x) = 2 from (by simp only [t_addVat, t_addLot, t_addOrder, t_addRecipe, eti]; (repeat' split) <;> first | rfl | contradiction | (exfalso; simp_all [-Int32.not_lt, -Int32.not_le]; done))]; rfl).trans (show eC w9 = 2 from if_neg h9).symm) (qX6_checkCustomer la hst g lo w9) gX6_addOrder_X6_checkCustomer rfl rfl rfl (by decide +kernel) ⟨Nat.le_of_ble_eq_true rfl, Nat.le_of_ble_eq_true rfl⟩ rfl hl.1 rfl (Nat.le_of_ble_eq_true rfl) dX6_addOrder_8 ⟨Nat.le_of_ble_eq_true rfl, Nat.le_of_ble_eq_true rfl⟩ ⟨Nat.le_of_ble_eq_true rfl, Nat.le_of_ble_eq_true rfl⟩ (fun _ => rfl) (fun h_3 => ?_)
    have kc_2 : isP w9 0 3 := Decidable.byContradiction fun z => absurd (show eC w9 = 0 from h_3) (by rw [show eC w9 = 2 from if_neg z]; decide)
    refine lv_iload_n hx hb dX6_addOrder_11 rfl (lv_at hl 4 rfl) ?_
    refine lv_iconst (v := 0) hx hb dX6_addOrder_12 (by decide) ?_
    refine lv_bipush (v := 30) hx hb dX6_addOrder_13 (by decide) ?_
    refine xc_s (n := 3) (As := [.int b, .int 0, .int 30]) (rest := []) (v := []) ⟨hx, hb, hml, hown, hts⟩ hE ht hlocks (fun q => by have h9 : ¬ (isP b 0 30) := fun z => q (show eRg b 0 30 = 0 from if_pos z); exact (show (exOf 1 2 3 (t_addOrder σ w9 (nI i) b d x)) = 2 from by rw [show (t_addOrder σ w9 (nI i) b d x) = 2 from (by simp only [t_addVat, t_addLot, t_addOrder, t_addRecipe, eti]; (repeat' split) <;> first | rfl | contradiction | (exfalso; simp_all [-Int32.not_lt, -Int32.not_le]; done))]; rfl).trans (show eRg b 0 30 = 2 from if_neg h9).symm) (qX6_checkRange la hst g lo b 0 30) gX6_addOrder_X6_checkRange rfl rfl rfl (by decide +kernel) ⟨Nat.le_of_ble_eq_true rfl, Nat.le_of_ble_eq_true rfl⟩ rfl hl.1 rfl (Nat.le_of_ble_eq_true rfl) dX6_addOrder_15 ⟨Nat.le_of_ble_eq_true rfl, Nat.le_of_ble_eq_true rfl⟩ ⟨Nat.le_of_ble_eq_true rfl, Nat.le_of_ble_eq_true rfl⟩ (fun _ => rfl) (fun h_5 => ?_)
    have kc_4 : isP b 0 30 := Decidable.byContradiction fun z => absurd (show eRg b 0 30 = 0 from h_5) (by rw [show eRg b 0 30 = 2 from if_neg z]; decide)
    refine lv_iload hx hb dX6_addOrder_18 (lv_at hl 5 rfl) ?_
    refine lv_iconst (v := 0) hx hb dX6_addOrder_20 (by decide) ?_
    refine lv_bipush (v := 99) hx hb dX6_addOrder_21 (by decide) ?_
    refine xc_s (n := 3) (As := [.int d, .int 0, .int 99]) (rest := []) (v := []) ⟨hx, hb, hml, hown, hts⟩ hE ht hlocks (fun q => by have h9 : ¬ (isP d 0 99) := fun z => q (show eRg d 0 99 = 0 from if_pos z); exact (show (exOf 1 2 3 (t_addOrder σ w9 (nI i) b d x)) = 2 from by rw [show (t_addOrder σ w9 (nI i) b d x) = 2 from (by simp only [t_addVat, t_addLot, t_addOrder, t_addRecipe, eti]; (repeat' split) <;> first | rfl | contradiction | (exfalso; simp_all [-Int32.not_lt, -Int32.not_le]; done))]; rfl).trans (show eRg d 0 99 = 2 from if_neg h9).symm) (qX6_checkRange la hst g lo d 0 99) gX6_addOrder_X6_checkRange rfl rfl rfl (by decide +kernel) ⟨Nat.le_of_ble_eq_true rfl, Nat.le_of_ble_eq_true rfl⟩ rfl hl.1 rfl (Nat.le_of_ble_eq_true rfl) dX6_addOrder_23 ⟨Nat.le_of_ble_eq_true rfl, Nat.le_of_ble_eq_true rfl⟩ ⟨Nat.le_of_ble_eq_true rfl, Nat.le_of_ble_eq_true rfl⟩ (fun _ => rfl) (fun h_7 => ?_)
    have kc_6 : isP d 0 99 := Decidable.byContradiction fun z => absurd (show eRg d 0 99 = 0 from h_7) (by rw [show eRg d 0 99 = 2 from if_neg z]; decide)
    refine lv_iload hx hb dX6_addOrder_26 (lv_at hl 6 rfl) ?_
    refine lv_iconst (v := 0) hx hb dX6_addOrder_28 (by decide) ?_
    refine lv_bipush (v := 99) hx hb dX6_addOrder_29 (by decide) ?_
    refine xc_s (n := 3) (As := [.int x, .int 0, .int 99]) (rest := []) (v := []) ⟨hx, hb, hml, hown, hts⟩ hE ht hlocks (fun q => by have h9 : ¬ (isP x 0 99) := fun z => q (show eRg x 0 99 = 0 from if_pos z); exact (show (exOf 1 2 3 (t_addOrder σ w9 (nI i) b d x)) = 2 from by rw [show (t_addOrder σ w9 (nI i) b d x) = 2 from (by simp only [t_addVat, t_addLot, t_addOrder, t_addRecipe, eti]; (repeat' split) <;> first | rfl | contradiction | (exfalso; simp_all [-Int32.not_lt, -Int32.not_le]; done))]; rfl).trans (show eRg x 0 99 = 2 from if_neg h9).symm) (qX6_checkRange la hst g lo x 0 99) gX6_addOrder_X6_checkRange rfl rfl rfl (by decide +kernel) ⟨Nat.le_of_ble_eq_true rfl, Nat.le_of_ble_eq_true rfl⟩ rfl hl.1 rfl (Nat.le_of_ble_eq_true rfl) dX6_addOrder_31 ⟨Nat.le_of_ble_eq_true rfl, Nat.le_of_ble_eq_true rfl⟩ ⟨Nat.le_of_ble_eq_true rfl, Nat.le_of_ble_eq_true rfl⟩ (fun _ => rfl) (fun h_9 => ?_)
    have kc_8 : isP x 0 99 := Decidable.byContradiction fun z => absurd (show eRg x 0 99 = 0 from h_9) (by rw [show eRg x 0 99 = 2 from if_neg z]; decide)
    refine lv_aload_n hx hb dX6_addOrder_34 rfl (lv_at hl 1 rfl) ?_
    refine x_get (K := 0) (i := 0) (v := .int (σ 2 0)) hx hb hts hinX6 hown hK hX (show 0 < 1 from Nat.zero_lt_one) 8 rfl rfl (by decide) rfl lk85 rfl dX6_addOrder_35 ?_
    refine lv_if_lt (tgt := 53) hx hb dX6_addOrder_38 (by decide) (fun c_10 => ?_) (fun c_10 => ?_)
    · exact x_throw (k9 := 3) (ic := 58) hx hb hst hown hE ht hlocks (hl.1.trans hml.symm) (fun _ _ _ => trivial) (by decide) tk3 ti3 tw3 bad3 good3 (by decide) (show (exOf 1 2 3 (t_addOrder σ w9 (nI i) b d x)) = 3 from by rw [show (t_addOrder σ w9 (nI i) b d x) = 3 from (by simp only [t_addVat, t_addLot, t_addOrder, t_addRecipe, eti]; (repeat' split) <;> first | rfl | contradiction | (exfalso; simp_all [-Int32.not_lt, -Int32.not_le]; done))]; rfl) dX6_addOrder_53 dX6_addOrder_56 dX6_addOrder_57 dX6_addOrder_60 (Nat.le_of_ble_eq_true rfl) (Nat.le_of_ble_eq_true rfl) (Nat.le_of_ble_eq_true rfl) (Nat.le_of_ble_eq_true rfl) (Nat.le_of_ble_eq_true rfl) (Nat.le_of_ble_eq_true rfl)
    · refine lv_aload_n hx hb dX6_addOrder_41 rfl (lv_at hl 1 rfl) ?_
      refine x_get (K := 0) (i := 0) (v := .int (σ 2 0)) hx hb hts hinX6 hown hK hX (show 0 < 1 from Nat.zero_lt_one) 8 rfl rfl (by decide) rfl lk85 rfl dX6_addOrder_42 ?_
      refine lv_aload_n hx hb dX6_addOrder_45 rfl (lv_at hl 1 rfl) ?_
      refine x_get (K := 0) (i := 0) (v := .ref (ad 2 0)) hx hb hts hinX6 hown hK hX (show 0 < 1 from Nat.zero_lt_one) 1 rfl rfl (by decide) rfl lk17 rfl dX6_addOrder_46 ?_
      refine x_alen (K := 2) (t0 := 4) (v := 6) hx hb hK hX (show 0 < 1 from Nat.zero_lt_one) rfl rfl rfl dX6_addOrder_49 ?_
      refine lv_icmp_lt (tgt := 61) hx hb dX6_addOrder_50 (by decide) (fun c_11 => ?_) (fun c_11 => ?_)
      · have hlt9 := cnt_ltM (M := 6) hI.1.2.1 (by decide) c_11
        have hne9 : ¬ σ 2 0 = 6 := hlt9.1
        replace hlt9 := hlt9.2
        refine lv_aload_n hx hb dX6_addOrder_61 rfl (lv_at hl 1 rfl) ?_
        refine x_get (K := 0) (i := 0) (v := .ref (ad 2 0)) hx hb hts hinX6 hown hK hX (show 0 < 1 from Nat.zero_lt_one) 1 rfl rfl (by decide) rfl lk17 rfl dX6_addOrder_62 ?_
        refine lv_aload_n hx hb dX6_addOrder_65 rfl (lv_at hl 1 rfl) ?_
        refine x_get (K := 0) (i := 0) (v := .int (σ 2 0)) hx hb hts hinX6 hown hK hX (show 0 < 1 from Nat.zero_lt_one) 8 rfl rfl (by decide) rfl lk85 rfl dX6_addOrder_66 ?_
        have hX0 := hX
        refine sp_newB (b0 := s.heap.size) rfl (C := RX1) (T := TX1) (N := 5) (ci := 3) (fs := [.int 0, .null, .int 0, .int 0, .int 0]) hx hb hts hinX1 tyX1 tyX1_ok hown cl15 isX1 icX1 hK rfl (by decide +kernel) (Nat.le_of_ble_eq_true rfl) (Nat.le_of_ble_eq_true rfl) dX6_addOrder_69 (fun H1 hN hN2 hN3 => ?_)
        have hold := hN3
        have hX := hX.more hN3
        have hz := hN2
        have hlc : ∀ z ∈ ([] : List Loc), lo ≤ z.base := fun z h => nomatch h
        have hlo : lo ≤ s.heap.size := Nat.le_trans (hA.2 0 0 Nat.zero_lt_one) (Nat.le_of_lt (hX0 0 0 Nat.zero_lt_one).lt)
        refine lv_dup hx hb dX6_addOrder_72 rfl ?_
        refine lv_iload_n hx hb dX6_addOrder_73 rfl (lv_at hl 2 rfl) ?_
        refine lv_aload hx hb dX6_addOrder_74 (lv_at hl 0 rfl) ?_
        refine lv_iload_n hx hb dX6_addOrder_76 rfl (lv_at hl 4 rfl) ?_
        refine lv_iload hx hb dX6_addOrder_77 (lv_at hl 5 rfl) ?_
        refine lv_iload hx hb dX6_addOrder_79 (lv_at hl 6 rfl) ?_
        refine ctor_call (n := 5) (rest := [.ref s.heap.size, .int (σ 2 0), .ref (ad 2 0)]) (As := [.int w9, .ref (ad 12 i), .int b, .int d, .int x]) ⟨hx, hb, hml, hown, hts⟩ (qX1_init la g lo s.heap.size hlo w9 (ad 12 i) b d x) (fun U hU hW => ⟨by rw [hU]; exact hN, va_K.moved hW.alike hK⟩) (fun u9 a9 g9 mk q => ⟨q.1, va_K.moved (u := u9) (U := u9.calling g9 mk a9) (Vm.Alike.refl u9.vm) q.2⟩) gX6_addOrder_X1_init rfl rfl rfl icX1 ml88 inX1 rfl (by decide +kernel) ⟨Nat.le_of_ble_eq_true rfl, Nat.le_of_ble_eq_true rfl⟩ rfl hl.1 rfl (Nat.le_of_ble_eq_true rfl) dX6_addOrder_81 ⟨Nat.le_of_ble_eq_true rfl, Nat.le_of_ble_eq_true rfl⟩ hlc (fun H1 locs1 h1 h2 h3 hlc => ?_)
        have hold := fun q (q1 : q < s.heap.size) => (h3 q (by rw [hz]; omega) (by omega)).trans (hold q q1)
        have hX := hX0.more hold
        have hz := h2.trans (congrArg (· + _) hz)
        have hN := h1
        refine sp_aast (H := _) hx hb hK 4 3 (show va_at g.1 vwCl (ad 2 0, .inl (g.2 4, 6, .inr (.inr (.inr (.inr (refA ad 15 (nO σ))))))) _ from hX 2 0 Nat.zero_lt_one) rfl hN rfl (vp_in_cnt hlt9 (by decide)) dX6_addOrder_84 (fun H1 j1 a1 a2 a3 => ?_)
        have h00 : va_at g.1 vwCl (ad 0 0, .inr (8, [.ref (ad 1 0), .ref (ad 2 0), .ref (ad 3 0), .ref (ad 4 0), .ref (ad 5 0), .ref (ad 6 0), .ref (ad 7 0), .int (σ 1 0), .int (σ 2 0), .int (σ 3 0), .int (σ 4 0)])) H1 := (hX 0 0 Nat.zero_lt_one).kept (a3 _ (fun q => absurd (hA.1 0 0 2 0 Nat.zero_lt_one Nat.zero_lt_one q).1 (by decide)))
        have hlc := locA (j := j1) hlc (hA.2 2 0 Nat.zero_lt_one)
        refine lv_aload_n hx hb dX6_addOrder_85 rfl (lv_at hl 1 rfl) ?_
        refine lv_dup hx hb dX6_addOrder_86 rfl ?_
        refine va_get (ref := RX6) (C := RX6) (T := TX6) (N := 11) (ci := 8) (v := .int (σ 2 0)) hx hb hts hinX6 hown hK (sp_one h00) 0 rfl rfl 8 (by decide) lk85 (fun _ h => h) rfl dX6_addOrder_87 ?_
        refine lv_dup_x1 hx hb dX6_addOrder_90 rfl rfl ?_
        refine lv_iconst (v := 1) hx hb dX6_addOrder_91 (by decide) ?_
        refine lv_iadd hx hb dX6_addOrder_92 ?_
        refine sp_put (ref := RX6) (C := RX6) (T := TX6) (N := 11) (ci := 8) (ty := .int) (v := .int ((σ 2 0) + 1)) hx hb hts hinX6 tyX6 tyX6_ok nmX6 hown hK h00 rfl 8 (by decide) lk85 (fun _ h => h) rfl (by decide +kernel) rfl rfl (show 8 < 11 from by decide) dX6_addOrder_93 (fun H1 j2 b1 b2 b3 => ?_)
        have hlc := locA (j := j2) hlc (hA.2 0 0 Nat.zero_lt_one)
        refine vx_ret ?_
        refine W.widen (k := 6) (n := 36) (Nat.le_of_ble_eq_true rfl) (Nat.le_of_ble_eq_true rfl) ?_
        have hkeep := fun q (q1 : q < s.heap.size) (q2 : q ≠ ad 2 0) (q3 : q ≠ ad 0 0) => (b3 q q3).trans ((a3 q q2).trans (hold q q1))
        have hsz := b2.trans (a2.trans hz)
        have ha5 := a1.kept (b3 _ (fun q => absurd (hA.1 2 0 0 0 Nat.zero_lt_one Nat.zero_lt_one q).1 (by decide)))
        have hn5 := (hN.kept (a3 _ (fun q => Nat.lt_irrefl _ (q ▸ (hX0 2 0 Nat.zero_lt_one).lt)))).kept (b3 _ (fun q => Nat.lt_irrefl _ (q ▸ (hX0 0 0 Nat.zero_lt_one).lt)))
        have hG9 : XG g lo n0 ad σ (F_addOrder σ w9 (nI i) b d x) u τ H1 := by unfold F_addOrder; rw [if_pos (show (t_addOrder σ w9 (nI i) b d x) = 0 from (by simp only [t_addVat, t_addLot, t_addOrder, t_addRecipe]; (repeat' split) <;> first | rfl | contradiction | (exfalso; simp_all [-Int32.not_lt, -Int32.not_le]; done)))]; exact grow_ord hn0 hI hA hX0 hlt9 (by rw [eti]; exact hn5) ha5 b1 hkeep
        exact W.iret (v := (σ 2 0)) hx hb hr (fun t ht9 hW => ⟨(show (exOf 1 2 3 (t_addOrder σ w9 (nI i) b d x)) = 0 from by rw [show (t_addOrder σ w9 (nI i) b d x) = 0 from (by simp only [t_addVat, t_addLot, t_addOrder, t_addRecipe, eti]; (repeat' split) <;> first | rfl | contradiction | (exfalso; simp_all [-Int32.not_lt, -Int32.not_le]; done))]; rfl), rfl, by rw [ht9]; exact hG9, by rw [ht9, hsz]; omega, fun q q1 q2 => by rw [ht9]; exact hkeep q q1 (fun z => q2 ⟨2, 0, Nat.zero_lt_one, z⟩) (fun z => q2 ⟨0, 0, Nat.zero_lt_one, z⟩)⟩) hlc dX6_addOrder_96
      · have heq9 : σ 2 0 = 6 := cnt_geM (M := 6) hI.1.2.1 (by decide) c_11
        exact x_throw (k9 := 3) (ic := 58) hx hb hst hown hE ht hlocks (hl.1.trans hml.symm) (fun _ _ _ => trivial) (by decide) tk3 ti3 tw3 bad3 good3 (by decide) (show (exOf 1 2 3 (t_addOrder σ w9 (nI i) b d x)) = 3 from by rw [show (t_addOrder σ w9 (nI i) b d x) = 3 from (by simp only [t_addVat, t_addLot, t_addOrder, t_addRecipe, eti]; (repeat' split) <;> first | rfl | contradiction | (exfalso; simp_all [-Int32.not_lt, -Int32.not_le]; done))]; rfl) dX6_addOrder_53 dX6_addOrder_56 dX6_addOrder_57 dX6_addOrder_60 (Nat.le_of_ble_eq_true rfl) (Nat.le_of_ble_eq_true rfl) (Nat.le_of_ble_eq_true rfl) (Nat.le_of_ble_eq_true rfl) (Nat.le_of_ble_eq_true rfl) (Nat.le_of_ble_eq_true rfl)
  · refine lv_aload_n hx hb dX6_addOrder_0 rfl (lv_at hl 0 rfl) ?_
    refine lv_iload_n hx hb dX6_addOrder_1 rfl (lv_at hl 2 rfl) ?_
    refine xc_v (n := 1) (As := [.int r]) (rest := []) (v := [.ref (ad 12 (ti r))]) ⟨hx, hb, hml, hown, hts⟩ hE hX ht hlocks (fun _ => ((show (exOf 1 2 3 (t_addOrder σ w9 r b d x)) = 1 from by rw [show (t_addOrder σ w9 r b d x) = 1 from (by simp only [t_addVat, t_addLot, t_addOrder, t_addRecipe]; (repeat' split) <;> first | rfl | contradiction | (exfalso; simp_all [-Int32.not_lt, -Int32.not_le]; done))]; rfl)).trans (show eR σ r = 1 from if_neg kr9).symm) (qX6_recipeNumbered la hst g lo ad σ u τ hI r) gX6_addOrder_X6_recipeNumbered rfl rfl rfl (by decide +kernel) ⟨Nat.le_of_ble_eq_true rfl, Nat.le_of_ble_eq_true rfl⟩ rfl hl.1 rfl (Nat.le_of_ble_eq_true rfl) dX6_addOrder_2 ⟨Nat.le_of_ble_eq_true rfl, Nat.le_of_ble_eq_true rfl⟩ ⟨Nat.le_of_ble_eq_true rfl, Nat.le_of_ble_eq_true rfl⟩ (fun _ => rfl) (fun h_13 => ?_)
    exact absurd h_13 (by rw [show eR σ r = 1 from if_neg kr9]; decide)
