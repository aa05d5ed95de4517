theorem tw_inX6_addVat_3 : ∀ w ∈ (vx_at0 RX6 58 (en 3) exN).filter goodWord, w ∈ wsX6_addVat := by decide +kernel
set_option maxHeartbeats 4000000 in
set_option maxRecDepth 100000 in
theorem qX6_addVat (la : Launch) (hst : la.stackTraces = false) (g : EG) (lo : Nat) (ad : Nat → Nat → Nat) (σ : Sg) (u : Nat → Int64) (τ : Sg) (hI : INV σ) (hA : XA lo ad σ) (x : Int32) : vx_Met la yX6_addVat wsX6_addVat ({ frames := 7, cells := 2, slots := 12, locals := 122 } : Room) (va_Pc [.ref (ad 0 0), .int x] (fun U => XR g ad σ u τ U.heap ∧ EV g lo U)) (QXM (exOf 2 3 0 (t_addVat σ x)) (.returned (some (.int (σ 4 0)))) (fun H9 => XG g lo ad σ (F_addVat σ x) u τ H9) (xown ad σ)) (XX (exOf 2 3 0 (t_addVat σ x))) 2 12 (fun q => lo ≤ q) := by
  refine vx_ofW (cc := cX6_addVat) (maxL := 2) (ret := (some .int)) (by decide) rfl ?_
  intro p e s m args below meth c s₁ B hml ht hv
  obtain ⟨rfl, hX, hE⟩ := hv
  have hK := hE.1
  have hx := B.exec
  have hb := B.bytes
  have hr := B.returns
  have hts := atoms_spec (ws := wsX6_addVat) B.pre
  have hown : s.vm.findClass RX6 = some m.cls := findClass_of_methodNamed B.named
  have hlocks := B.notSynchronized
  have hinX5 : ∀ w ∈ wsX50, w ∈ wsX6_addVat := by decide +kernel
  have hinX6 : ∀ w ∈ wsX60, w ∈ wsX6_addVat := by decide +kernel
  have cl27 := hts (.classLink RX6 27 RX5) (by decide +kernel)
  have icX5 := hts (.initialized RX5) (by decide +kernel)
  have inX5 := hts (.instanceMethod yX5_init) (by decide +kernel)
  have isX5 := hts (.instantiable RX5 6) (by decide +kernel)
  have lk101 := hts (.fieldLink RX6 101 "DyehouseLedger" "vatCount" "I") (by decide +kernel)
  have lk29 := hts (.fieldLink RX6 29 "DyehouseLedger" "allVats" "[LDyehouseLedger$Vat;") (by decide +kernel)
  have ml104 := hts (.methodLink RX6 104 yX5_init) (by decide +kernel)
  have ti3 := hts (.initialized "java/lang/IllegalStateException") (by decide +kernel)
  have tk3 := hts (.classLink RX6 56 "java/lang/IllegalStateException") (by decide +kernel)
  have tw3 : ∀ w ∈ (vx_at0 RX6 58 (en 3) exN).filter goodWord, w.before _ s = true := fun w h => hts w (tw_inX6_addVat_3 w h)
  have hl := lv_entry ([.ref (ad 0 0), .int x]) (n := 2) (Nat.le_of_ble_eq_true rfl)
  rw [lg_entry_eq]
  generalize (lg_sl ([.ref (ad 0 0), .int x]) ++ List.replicate (2 - (lg_sl ([.ref (ad 0 0), .int x])).length) Slot.unset).toArray = ls at hl ⊢
  have hl : lv_has ls 2 [(0, .ref (ad 0 0)), (1, .int x)] := hl
  have hbL := hI.l.1
  have hbO := hI.o.1
  have hbV := hI.v.1
  have hge0 := cnt_ge0 (M := 4) hI.1.2.2.2 (by decide)
  refine lv_iload_n hx hb dX6_addVat_0 rfl (lv_at hl 1 rfl) ?_
  refine lv_bipush (v := 10) hx hb dX6_addVat_1 (by decide) ?_
  refine lv_sipush (v := 300) hx hb dX6_addVat_3 (by decide) ?_
  refine xc_s (n := 3) (As := [.int x, .int 10, .int 300]) (rest := []) (v := []) ⟨hx, hb, hml, hown, hts⟩ hE ht hlocks (fun q => by have h9 : ¬ (isP x 10 300) := fun z => q (show eRg x 10 300 = 0 from if_pos z); exact (show (exOf 2 3 0 (t_addVat σ x)) = 2 from by rw [show (t_addVat σ x) = 1 from (by simp only [t_addVat, t_addLot, t_addOrder, t_addRecipe]; (repeat' split) <;> first | rfl | contradiction | (exfalso; simp_all [-Int32.not_lt, -Int32.not_le]; done))]; rfl).trans (show eRg x 10 300 = 2 from if_neg h9).symm) (qX6_checkRange la hst g lo x 10 300) gX6_addVat_X6_checkRange rfl rfl rfl (by decide +kernel) ⟨Nat.le_of_ble_eq_true rfl, Nat.le_of_ble_eq_true rfl⟩ rfl hl.1 rfl (Nat.le_of_ble_eq_true rfl) dX6_addVat_6 ⟨Nat.le_of_ble_eq_true rfl, Nat.le_of_ble_eq_true rfl⟩ ⟨Nat.le_of_ble_eq_true rfl, Nat.le_of_ble_eq_true rfl⟩ (fun _ => rfl) (fun h_2 => ?_)
  have kc_1 : isP x 10 300 := Decidable.byContradiction fun z => absurd (show eRg x 10 300 = 0 from h_2) (by rw [show eRg x 10 300 = 2 from if_neg z]; decide)
  refine lv_aload_n hx hb dX6_addVat_9 rfl (lv_at hl 0 rfl) ?_
  refine x_get (K := 0) (i := 0) (v := .int (σ 4 0)) hx hb hts hinX6 hown hK hX (show 0 < 1 from Nat.zero_lt_one) 10 rfl rfl (by decide) rfl lk101 rfl dX6_addVat_10 ?_
  refine lv_if_lt (tgt := 28) hx hb dX6_addVat_13 (by decide) (fun c_3 => ?_) (fun c_3 => ?_)
  · exact x_throw (k9 := 3) (ic := 58) hx hb hst hown hE ht hlocks (hl.1.trans hml.symm) (fun _ _ _ => trivial) (by decide) tk3 ti3 tw3 bad3 good3 (by decide) (show (exOf 2 3 0 (t_addVat σ x)) = 3 from by rw [show (t_addVat σ x) = 2 from (by simp only [t_addVat, t_addLot, t_addOrder, t_addRecipe]; (repeat' split) <;> first | rfl | contradiction | (exfalso; simp_all [-Int32.not_lt, -Int32.not_le]; done))]; rfl) dX6_addVat_28 dX6_addVat_31 dX6_addVat_32 dX6_addVat_35 (Nat.le_of_ble_eq_true rfl) (Nat.le_of_ble_eq_true rfl) (Nat.le_of_ble_eq_true rfl) (Nat.le_of_ble_eq_true rfl) (Nat.le_of_ble_eq_true rfl) (Nat.le_of_ble_eq_true rfl)
  · refine lv_aload_n hx hb dX6_addVat_16 rfl (lv_at hl 0 rfl) ?_
    refine x_get (K := 0) (i := 0) (v := .int (σ 4 0)) hx hb hts hinX6 hown hK hX (show 0 < 1 from Nat.zero_lt_one) 10 rfl rfl (by decide) rfl lk101 rfl dX6_addVat_17 ?_
    refine lv_aload_n hx hb dX6_addVat_20 rfl (lv_at hl 0 rfl) ?_
    refine x_get (K := 0) (i := 0) (v := .ref (ad 4 0)) hx hb hts hinX6 hown hK hX (show 0 < 1 from Nat.zero_lt_one) 3 rfl rfl (by decide) rfl lk29 rfl dX6_addVat_21 ?_
    refine x_alen (K := 4) (t0 := 6) (v := 4) hx hb hK hX (show 0 < 1 from Nat.zero_lt_one) rfl rfl rfl dX6_addVat_24 ?_
    refine lv_icmp_lt (tgt := 36) hx hb dX6_addVat_25 (by decide) (fun c_4 => ?_) (fun c_4 => ?_)
    · have hlt9 := cnt_ltM (M := 4) hI.1.2.2.2 (by decide) c_4
      have hne9 : ¬ σ 4 0 = 4 := hlt9.1
      replace hlt9 := hlt9.2
      refine lv_aload_n hx hb dX6_addVat_36 rfl (lv_at hl 0 rfl) ?_
      refine x_get (K := 0) (i := 0) (v := .ref (ad 4 0)) hx hb hts hinX6 hown hK hX (show 0 < 1 from Nat.zero_lt_one) 3 rfl rfl (by decide) rfl lk29 rfl dX6_addVat_37 ?_
      refine lv_aload_n hx hb dX6_addVat_40 rfl (lv_at hl 0 rfl) ?_
      refine x_get (K := 0) (i := 0) (v := .int (σ 4 0)) hx hb hts hinX6 hown hK hX (show 0 < 1 from Nat.zero_lt_one) 10 rfl rfl (by decide) rfl lk101 rfl dX6_addVat_41 ?_
      have hX0 := hX
      refine sp_newB (b0 := s.heap.size) rfl (C := RX5) (T := TX5) (N := 6) (ci := 7) (fs := [.int 0, .int 0, .int 0, .int 0, .int 0, .int 0]) hx hb hts hinX5 tyX5 tyX5_ok hown cl27 isX5 icX5 hK rfl (by decide +kernel) (Nat.le_of_ble_eq_true rfl) (Nat.le_of_ble_eq_true rfl) dX6_addVat_44 (fun H1 hN hN2 hN3 => ?_)
      have hold := hN3
      have hX := hX.more hN3
      have hz := hN2
      have hlc : ∀ z ∈ ([] : List Loc), lo ≤ z.base := fun z h => nomatch h
      have hlo : lo ≤ s.heap.size := Nat.le_trans (hA.2 0 0 Nat.zero_lt_one) (Nat.le_of_lt (hX0 0 0 Nat.zero_lt_one).lt)
      refine lv_dup hx hb dX6_addVat_47 rfl ?_
      refine lv_aload_n hx hb dX6_addVat_48 rfl (lv_at hl 0 rfl) ?_
      refine x_get (K := 0) (i := 0) (v := .int (σ 4 0)) hx hb hts hinX6 hown hK hX (show 0 < 1 from Nat.zero_lt_one) 10 rfl rfl (by decide) rfl lk101 rfl dX6_addVat_49 ?_
      refine lv_iload_n hx hb dX6_addVat_52 rfl (lv_at hl 1 rfl) ?_
      refine ctor_call (n := 2) (rest := [.ref s.heap.size, .int (σ 4 0), .ref (ad 4 0)]) (As := [.int (σ 4 0), .int x]) ⟨hx, hb, hml, hown, hts⟩ (qX5_init la g lo s.heap.size hlo (σ 4 0) x) (fun U hU hW => ⟨by rw [hU]; exact hN, va_K.moved hW.alike hK⟩) (fun u9 a9 g9 mk q => ⟨q.1, va_K.moved (u := u9) (U := u9.calling g9 mk a9) (Vm.Alike.refl u9.vm) q.2⟩) gX6_addVat_X5_init rfl rfl rfl icX5 ml104 inX5 rfl (by decide +kernel) ⟨Nat.le_of_ble_eq_true rfl, Nat.le_of_ble_eq_true rfl⟩ rfl hl.1 rfl (Nat.le_of_ble_eq_true rfl) dX6_addVat_53 ⟨Nat.le_of_ble_eq_true rfl, Nat.le_of_ble_eq_true rfl⟩ hlc (fun H1 locs1 h1 h2 h3 hlc => ?_)
      have hold := fun q (q1 : q < s.heap.size) => (h3 q (by rw [hz]; omega) (by omega)).trans (hold q q1)
      have hX := hX0.more hold
      have hz := h2.trans (congrArg (· + _) hz)
      have hN := h1
      refine sp_aast (H := _) hx hb hK 6 7 (show va_at g.1 vwCl (ad 4 0, .inl (g.2 6, 4, .inr (.inr (.inr (.inr (refA ad 18 (nV σ))))))) _ from hX 4 0 Nat.zero_lt_one) rfl hN rfl (vp_in_cnt hlt9 (by decide)) dX6_addVat_56 (fun H1 j1 a1 a2 a3 => ?_)
      have h00 : va_at g.1 vwCl (ad 0 0, .inr (8, [.ref (ad 1 0), .ref (ad 2 0), .ref (ad 3 0), .ref (ad 4 0), .ref (ad 5 0), .ref (ad 6 0), .ref (ad 7 0), .int (σ 1 0), .int (σ 2 0), .int (σ 3 0), .int (σ 4 0)])) H1 := (hX 0 0 Nat.zero_lt_one).kept (a3 _ (fun q => absurd (hA.1 0 0 4 0 Nat.zero_lt_one Nat.zero_lt_one q).1 (by decide)))
      have hlc := locA (j := j1) hlc (hA.2 4 0 Nat.zero_lt_one)
      refine lv_aload_n hx hb dX6_addVat_57 rfl (lv_at hl 0 rfl) ?_
      refine lv_dup hx hb dX6_addVat_58 rfl ?_
      refine va_get (ref := RX6) (C := RX6) (T := TX6) (N := 11) (ci := 8) (v := .int (σ 4 0)) hx hb hts hinX6 hown hK (sp_one h00) 0 rfl rfl 10 (by decide) lk101 (fun _ h => h) rfl dX6_addVat_59 ?_
      refine lv_dup_x1 hx hb dX6_addVat_62 rfl rfl ?_
      refine lv_iconst (v := 1) hx hb dX6_addVat_63 (by decide) ?_
      refine lv_iadd hx hb dX6_addVat_64 ?_
      refine sp_put (ref := RX6) (C := RX6) (T := TX6) (N := 11) (ci := 8) (ty := .int) (v := .int ((σ 4 0) + 1)) hx hb hts hinX6 tyX6 tyX6_ok nmX6 hown hK h00 rfl 10 (by decide) lk101 (fun _ h => h) rfl (by decide +kernel) rfl rfl (show 10 < 11 from by decide) dX6_addVat_65 (fun H1 j2 b1 b2 b3 => ?_)
      have hlc := locA (j := j2) hlc (hA.2 0 0 Nat.zero_lt_one)
      refine vx_ret ?_
      refine W.widen (k := 2) (n := 12) (Nat.le_of_ble_eq_true rfl) (Nat.le_of_ble_eq_true rfl) ?_
      have hkeep := fun q (q1 : q < s.heap.size) (q2 : q ≠ ad 4 0) (q3 : q ≠ ad 0 0) => (b3 q q3).trans ((a3 q q2).trans (hold q q1))
      have hsz := b2.trans (a2.trans hz)
      have ha5 := a1.kept (b3 _ (fun q => absurd (hA.1 4 0 0 0 Nat.zero_lt_one Nat.zero_lt_one q).1 (by decide)))
      have hn5 := (hN.kept (a3 _ (fun q => Nat.lt_irrefl _ (q ▸ (hX0 4 0 Nat.zero_lt_one).lt)))).kept (b3 _ (fun q => Nat.lt_irrefl _ (q ▸ (hX0 0 0 Nat.zero_lt_one).lt)))
      have hG9 : XG g lo ad σ (F_addVat σ x) u τ H1 := by unfold F_addVat; rw [if_pos (show (t_addVat σ x) = 0 from (by simp only [t_addVat, t_addLot, t_addOrder, t_addRecipe]; (repeat' split) <;> first | rfl | contradiction | (exfalso; simp_all [-Int32.not_lt, -Int32.not_le]; done)))]; exact grow_vat hI hA hX0 hlt9 hn5 ha5 b1 hkeep
      exact W.iret (v := (σ 4 0)) hx hb hr (fun t ht9 hW => ⟨(show (exOf 2 3 0 (t_addVat σ x)) = 0 from by rw [show (t_addVat σ x) = 0 from (by simp only [t_addVat, t_addLot, t_addOrder, t_addRecipe]; (repeat' split) <;> first | rfl | contradiction | (exfalso; simp_all [-Int32.not_lt, -Int32.not_le]; done))]; rfl), rfl, by rw [ht9]; exact hG9, by rw [ht9, hsz]; omega, fun q q1 q2 => by rw [ht9]; exact hkeep q q1 (fun z => q2 ⟨4, 0, Nat.zero_lt_one, z⟩) (fun z => q2 ⟨0, 0, Nat.zero_lt_one, z⟩)⟩) hlc dX6_addVat_68
    · have heq9 : σ 4 0 = 4 := cnt_geM (M := 4) hI.1.2.2.2 (by decide) c_4
      exact x_throw (k9 := 3) (ic := 58) hx hb hst hown hE ht hlocks (hl.1.trans hml.symm) (fun _ _ _ => trivial) (by decide) tk3 ti3 tw3 bad3 good3 (by decide) (show (exOf 2 3 0 (t_addVat σ x)) = 3 from by rw [show (t_addVat σ x) = 2 from (by simp only [t_addVat, t_addLot, t_addOrder, t_addRecipe]; (repeat' split) <;> first | rfl | contradiction | (exfalso; simp_all [-Int32.not_lt, -Int32.not_le]; done))]; rfl) dX6_addVat_28 dX6_addVat_31 dX6_addVat_32 dX6_addVat_35 (Nat.le_of_ble_eq_true rfl) (Nat.le_of_ble_eq_true rfl) (Nat.le_of_ble_eq_true rfl) (Nat.le_of_ble_eq_true rfl) (Nat.le_of_ble_eq_true rfl) (Nat.le_of_ble_eq_true rfl)
