theorem tw_inX6_checkRange_2 : ∀ w ∈ (vx_at0 RX6 268 (en 2) exN).filter goodWord, w ∈ wsX6_checkRange := by decide +kernel
set_option maxHeartbeats 4000000 in
set_option maxRecDepth 100000 in
theorem qX6_checkRange (la : Launch) (hst : la.stackTraces = false) (g : EG) (lo : Nat) (x a b : Int32) : vx_Met la yX6_checkRange wsX6_checkRange ({ frames := 6, cells := 1, slots := 6, locals := 100 } : Room) (va_Pc [.int x, .int a, .int b] (fun U => EV g lo U)) (QX (eRg x a b) (.returned none)) (XX (eRg x a b)) 1 6 (fun _ => False) := by
  refine vx_ofW (cc := cX6_checkRange) (maxL := 3) (ret := none) (by decide) rfl ?_
  intro p e s m args below meth c s₁ B hml ht hv
  obtain ⟨rfl, hE⟩ := hv
  have hK := hE.1
  have hx := B.exec
  have hb := B.bytes
  have hr := B.returns
  have hts := atoms_spec (ws := wsX6_checkRange) B.pre
  have hown : s.vm.findClass RX6 = some m.cls := findClass_of_methodNamed B.named
  have hlocks := B.notSynchronized
  have ti2 := hts (.initialized "java/lang/IllegalArgumentException") (by decide +kernel)
  have tk2 := hts (.classLink RX6 266 "java/lang/IllegalArgumentException") (by decide +kernel)
  have tw2 : ∀ w ∈ (vx_at0 RX6 268 (en 2) exN).filter goodWord, w.before _ s = true := fun w h => hts w (tw_inX6_checkRange_2 w h)
  have hl := lv_entry ([.int x, .int a, .int b]) (n := 3) (Nat.le_of_ble_eq_true rfl)
  rw [lg_entry_eq]
  generalize (lg_sl ([.int x, .int a, .int b]) ++ List.replicate (3 - (lg_sl ([.int x, .int a, .int b])).length) Slot.unset).toArray = ls at hl ⊢
  have hl : lv_has ls 3 [(0, .int x), (1, .int a), (2, .int b)] := hl
  refine lv_iload_n hx hb dX6_checkRange_0 rfl (lv_at hl 0 rfl) ?_
  refine lv_iload_n hx hb dX6_checkRange_1 rfl (lv_at hl 1 rfl) ?_
  refine lv_icmp_lt (tgt := 10) hx hb dX6_checkRange_2 (by decide) (fun c_1 => ?_) (fun c_1 => ?_)
  · exact x_throw (k9 := 2) (ic := 268) hx hb hst hown hE ht hlocks (hl.1.trans hml.symm) (fun _ _ _ => trivial) (by decide) tk2 ti2 tw2 bad2 good2 (by decide) (if_neg (fun q => by first | exact q.1 (by assumption) | exact q.2 (by assumption))) dX6_checkRange_10 dX6_checkRange_13 dX6_checkRange_14 dX6_checkRange_17 (Nat.le_of_ble_eq_true rfl) (Nat.le_of_ble_eq_true rfl) (Nat.le_of_ble_eq_true rfl) (Nat.le_of_ble_eq_true rfl) (Nat.le_of_ble_eq_true rfl) (Nat.le_of_ble_eq_true rfl)
  · refine lv_iload_n hx hb dX6_checkRange_5 rfl (lv_at hl 0 rfl) ?_
    refine lv_iload_n hx hb dX6_checkRange_6 rfl (lv_at hl 2 rfl) ?_
    refine lv_icmp_le (tgt := 18) hx hb dX6_checkRange_7 (by decide) (fun c_2 => ?_) (fun c_2 => ?_)
    · replace c_2 := Int32.not_lt.mpr c_2
      refine vx_ret ?_
      refine W.widen (k := 1) (n := 6) (Nat.le_of_ble_eq_true rfl) (Nat.le_of_ble_eq_true rfl) ?_
      exact W.vret hx hb hr (fun t ht9 hW => ⟨(if_pos ⟨by assumption, by assumption⟩), rfl, ht9⟩) (fun _ h => nomatch h) dX6_checkRange_18
    · replace c_2 := Int32.not_le.mp c_2
      exact x_throw (k9 := 2) (ic := 268) hx hb hst hown hE ht hlocks (hl.1.trans hml.symm) (fun _ _ _ => trivial) (by decide) tk2 ti2 tw2 bad2 good2 (by decide) (if_neg (fun q => by first | exact q.1 (by assumption) | exact q.2 (by assumption))) dX6_checkRange_10 dX6_checkRange_13 dX6_checkRange_14 dX6_checkRange_17 (Nat.le_of_ble_eq_true rfl) (Nat.le_of_ble_eq_true rfl) (Nat.le_of_ble_eq_true rfl) (Nat.le_of_ble_eq_true rfl) (Nat.le_of_ble_eq_true rfl) (Nat.le_of_ble_eq_true rfl)
set_option maxHeartbeats 4000000 in
set_option maxRecDepth 100000 in
theorem qX6_checkShade (la : Launch) (hst : la.stackTraces = false) (g : EG) (lo : Nat) (x0 x1 x2 : Int32) : vx_Met la yX6_checkShade wsX6_checkShade ({ frames := 7, cells := 3, slots := 18, locals := 122 } : Room) (va_Pc [.int x0, .int x1, .int x2] (fun U => EV g lo U)) (QX (eSh x0 x1 x2) (.returned none)) (XX (eSh x0 x1 x2)) 3 18 (fun _ => False) := by
  refine vx_ofW (cc := cX6_checkShade) (maxL := 3) (ret := none) (by decide) rfl ?_
  intro p e s m args below meth c s₁ B hml ht hv
  obtain ⟨rfl, hE⟩ := hv
  have hK := hE.1
  have hx := B.exec
  have hb := B.bytes
  have hr := B.returns
  have hts := atoms_spec (ws := wsX6_checkShade) B.pre
  have hown : s.vm.findClass RX6 = some m.cls := findClass_of_methodNamed B.named
  have hlocks := B.notSynchronized
  have hl := lv_entry ([.int x0, .int x1, .int x2]) (n := 3) (Nat.le_of_ble_eq_true rfl)
  rw [lg_entry_eq]
  generalize (lg_sl ([.int x0, .int x1, .int x2]) ++ List.replicate (3 - (lg_sl ([.int x0, .int x1, .int x2])).length) Slot.unset).toArray = ls at hl ⊢
  have hl : lv_has ls 3 [(0, .int x0), (1, .int x1), (2, .int x2)] := hl
  refine lv_iload_n hx hb dX6_checkShade_0 rfl (lv_at hl 0 rfl) ?_
  refine lv_iconst (v := 0) hx hb dX6_checkShade_1 (by decide) ?_
  refine lv_bipush (v := 20) hx hb dX6_checkShade_2 (by decide) ?_
  refine xc_s (n := 3) (As := [.int x0, .int 0, .int 20]) (rest := []) (v := []) ⟨hx, hb, hml, hown, hts⟩ hE ht hlocks (fun q => by have h9 : ¬ isP x0 0 20 := fun z => q (if_pos z); exact (show eSh x0 x1 x2 = 2 from if_neg (fun z => h9 z.1)).trans (show eRg x0 0 20 = 2 from if_neg h9).symm) (qX6_checkRange la hst g lo x0 0 20) gX6_checkShade_X6_checkRange rfl rfl rfl (by decide +kernel) ⟨Nat.le_of_ble_eq_true rfl, Nat.le_of_ble_eq_true rfl⟩ rfl hl.1 rfl (Nat.le_of_ble_eq_true rfl) dX6_checkShade_4 ⟨Nat.le_of_ble_eq_true rfl, Nat.le_of_ble_eq_true rfl⟩ ⟨Nat.le_of_ble_eq_true rfl, Nat.le_of_ble_eq_true rfl⟩ (fun _ => rfl) (fun h_2 => ?_)
  have kc_1 : isP x0 0 20 := Decidable.byContradiction fun z => absurd (show eRg x0 0 20 = 0 from h_2) (by rw [show eRg x0 0 20 = 2 from if_neg z]; decide)
  refine lv_iload_n hx hb dX6_checkShade_7 rfl (lv_at hl 1 rfl) ?_
  refine lv_iconst (v := 0) hx hb dX6_checkShade_8 (by decide) ?_
  refine lv_bipush (v := 20) hx hb dX6_checkShade_9 (by decide) ?_
  refine xc_s (n := 3) (As := [.int x1, .int 0, .int 20]) (rest := []) (v := []) ⟨hx, hb, hml, hown, hts⟩ hE ht hlocks (fun q => by have h9 : ¬ isP x1 0 20 := fun z => q (if_pos z); exact (show eSh x0 x1 x2 = 2 from if_neg (fun z => h9 z.2.1)).trans (show eRg x1 0 20 = 2 from if_neg h9).symm) (qX6_checkRange la hst g lo x1 0 20) gX6_checkShade_X6_checkRange rfl rfl rfl (by decide +kernel) ⟨Nat.le_of_ble_eq_true rfl, Nat.le_of_ble_eq_true rfl⟩ rfl hl.1 rfl (Nat.le_of_ble_eq_true rfl) dX6_checkShade_11 ⟨Nat.le_of_ble_eq_true rfl, Nat.le_of_ble_eq_true rfl⟩ ⟨Nat.le_of_ble_eq_true rfl, Nat.le_of_ble_eq_true rfl⟩ (fun _ => rfl) (fun h_4 => ?_)
  have kc_3 : isP x1 0 20 := Decidable.byContradiction fun z => absurd (show eRg x1 0 20 = 0 from h_4) (by rw [show eRg x1 0 20 = 2 from if_neg z]; decide)
  refine lv_iload_n hx hb dX6_checkShade_14 rfl (lv_at hl 2 rfl) ?_
  refine lv_iconst (v := 0) hx hb dX6_checkShade_15 (by decide) ?_
  refine lv_bipush (v := 20) hx hb dX6_checkShade_16 (by decide) ?_
  refine xc_s (n := 3) (As := [.int x2, .int 0, .int 20]) (rest := []) (v := []) ⟨hx, hb, hml, hown, hts⟩ hE ht hlocks (fun q => by have h9 : ¬ isP x2 0 20 := fun z => q (if_pos z); exact (show eSh x0 x1 x2 = 2 from if_neg (fun z => h9 z.2.2)).trans (show eRg x2 0 20 = 2 from if_neg h9).symm) (qX6_checkRange la hst g lo x2 0 20) gX6_checkShade_X6_checkRange rfl rfl rfl (by decide +kernel) ⟨Nat.le_of_ble_eq_true rfl, Nat.le_of_ble_eq_true rfl⟩ rfl hl.1 rfl (Nat.le_of_ble_eq_true rfl) dX6_checkShade_18 ⟨Nat.le_of_ble_eq_true rfl, Nat.le_of_ble_eq_true rfl⟩ ⟨Nat.le_of_ble_eq_true rfl, Nat.le_of_ble_eq_true rfl⟩ (fun _ => rfl) (fun h_6 => ?_)
  have kc_5 : isP x2 0 20 := Decidable.byContradiction fun z => absurd (show eRg x2 0 20 = 0 from h_6) (by rw [show eRg x2 0 20 = 2 from if_neg z]; decide)
  refine vx_ret ?_
  refine W.widen (k := 3) (n := 18) (Nat.le_of_ble_eq_true rfl) (Nat.le_of_ble_eq_true rfl) ?_
  exact W.vret hx hb hr (fun t ht9 hW => ⟨(if_pos ⟨by assumption, by assumption, by assumption⟩), rfl, ht9⟩) (fun _ h => nomatch h) dX6_checkShade_21
set_option maxHeartbeats 4000000 in
set_option maxRecDepth 100000 in
theorem qX6_checkDye (la : Launch) (hst : la.stackTraces = false) (g : EG) (lo : Nat) (d : Int32) : vx_Met la yX6_checkDye wsX6_checkDye ({ frames := 7, cells := 1, slots := 6, locals := 122 } : Room) (va_Pc [.int d] (fun U => EV g lo U)) (QX (eD d) (.returned none)) (XX (eD d)) 1 6 (fun _ => False) := by
  refine vx_ofW (cc := cX6_checkDye) (maxL := 1) (ret := none) (by decide) rfl ?_
  intro p e s m args below meth c s₁ B hml ht hv
  obtain ⟨rfl, hE⟩ := hv
  have hK := hE.1
  have hx := B.exec
  have hb := B.bytes
  have hr := B.returns
  have hts := atoms_spec (ws := wsX6_checkDye) B.pre
  have hown : s.vm.findClass RX6 = some m.cls := findClass_of_methodNamed B.named
  have hlocks := B.notSynchronized
  have hl := lv_entry ([.int d]) (n := 1) (Nat.le_of_ble_eq_true rfl)
  rw [lg_entry_eq]
  generalize (lg_sl ([.int d]) ++ List.replicate (1 - (lg_sl ([.int d])).length) Slot.unset).toArray = ls at hl ⊢
  have hl : lv_has ls 1 [(0, .int d)] := hl
  refine lv_iload_n hx hb dX6_checkDye_0 rfl (lv_at hl 0 rfl) ?_
  refine lv_iconst (v := 0) hx hb dX6_checkDye_1 (by decide) ?_
  refine lv_iconst (v := 2) hx hb dX6_checkDye_2 (by decide) ?_
  refine xc_s (n := 3) (As := [.int d, .int 0, .int 2]) (rest := []) (v := []) ⟨hx, hb, hml, hown, hts⟩ hE ht hlocks (fun _ => rfl) (qX6_checkRange la hst g lo d 0 2) gX6_checkDye_X6_checkRange rfl rfl rfl (by decide +kernel) ⟨Nat.le_of_ble_eq_true rfl, Nat.le_of_ble_eq_true rfl⟩ rfl hl.1 rfl (Nat.le_of_ble_eq_true rfl) dX6_checkDye_3 ⟨Nat.le_of_ble_eq_true rfl, Nat.le_of_ble_eq_true rfl⟩ ⟨Nat.le_of_ble_eq_true rfl, Nat.le_of_ble_eq_true rfl⟩ (fun _ => rfl) (fun h_2 => ?_)
  have kc_1 : isP d 0 2 := Decidable.byContradiction fun z => absurd (show eRg d 0 2 = 0 from h_2) (by rw [show eRg d 0 2 = 2 from if_neg z]; decide)
  refine vx_ret ?_
  refine W.widen (k := 1) (n := 6) (Nat.le_of_ble_eq_true rfl) (Nat.le_of_ble_eq_true rfl) ?_
  exact W.vret hx hb hr (fun t ht9 hW => ⟨(if_pos (by assumption)), rfl, ht9⟩) (fun _ h => nomatch h) dX6_checkDye_6
set_option maxHeartbeats 4000000 in
set_option maxRecDepth 100000 in
theorem qX6_checkCustomer (la : Launch) (hst : la.stackTraces = false) (g : EG) (lo : Nat) (w9 : Int32) : vx_Met la yX6_checkCustomer wsX6_checkCustomer ({ frames := 7, cells := 1, slots := 6, locals := 122 } : Room) (va_Pc [.int w9] (fun U => EV g lo U)) (QX (eC w9) (.returned none)) (XX (eC w9)) 1 6 (fun _ => False) := by
  refine vx_ofW (cc := cX6_checkCustomer) (maxL := 1) (ret := none) (by decide) rfl ?_
  intro p e s m args below meth c s₁ B hml ht hv
  obtain ⟨rfl, hE⟩ := hv
  have hK := hE.1
  have hx := B.exec
  have hb := B.bytes
  have hr := B.returns
  have hts := atoms_spec (ws := wsX6_checkCustomer) B.pre
  have hown : s.vm.findClass RX6 = some m.cls := findClass_of_methodNamed B.named
  have hlocks := B.notSynchronized
  have hl := lv_entry ([.int w9]) (n := 1) (Nat.le_of_ble_eq_true rfl)
  rw [lg_entry_eq]
  generalize (lg_sl ([.int w9]) ++ List.replicate (1 - (lg_sl ([.int w9])).length) Slot.unset).toArray = ls at hl ⊢
  have hl : lv_has ls 1 [(0, .int w9)] := hl
  refine lv_iload_n hx hb dX6_checkCustomer_0 rfl (lv_at hl 0 rfl) ?_
  refine lv_iconst (v := 0) hx hb dX6_checkCustomer_1 (by decide) ?_
  refine lv_iconst (v := 3) hx hb dX6_checkCustomer_2 (by decide) ?_
  refine xc_s (n := 3) (As := [.int w9, .int 0, .int 3]) (rest := []) (v := []) ⟨hx, hb, hml, hown, hts⟩ hE ht hlocks (fun _ => rfl) (qX6_checkRange la hst g lo w9 0 3) gX6_checkCustomer_X6_checkRange rfl rfl rfl (by decide +kernel) ⟨Nat.le_of_ble_eq_true rfl, Nat.le_of_ble_eq_true rfl⟩ rfl hl.1 rfl (Nat.le_of_ble_eq_true rfl) dX6_checkCustomer_3 ⟨Nat.le_of_ble_eq_true rfl, Nat.le_of_ble_eq_true rfl⟩ ⟨Nat.le_of_ble_eq_true rfl, Nat.le_of_ble_eq_true rfl⟩ (fun _ => rfl) (fun h_2 => ?_)
  have kc_1 : isP w9 0 3 := Decidable.byContradiction fun z => absurd (show eRg w9 0 3 = 0 from h_2) (by rw [show eRg w9 0 3 = 2 from if_neg z]; decide)
  refine vx_ret ?_
  refine W.widen (k := 1) (n := 6) (Nat.le_of_ble_eq_true rfl) (Nat.le_of_ble_eq_true rfl) ?_
  exact W.vret hx hb hr (fun t ht9 hW => ⟨(if_pos (by assumption)), rfl, ht9⟩) (fun _ h => nomatch h) dX6_checkCustomer_6
theorem tw_inX6_recipeNumbered_1 : ∀ w ∈ (vx_at0 RX6 271 (en 1) exN).filter goodWord, w ∈ wsX6_recipeNumbered := by decide +kernel
set_option maxHeartbeats 4000000 in
set_option maxRecDepth 100000 in
theorem qX6_recipeNumbered (la : Launch) (hst : la.stackTraces = false) (g : EG) (lo : Nat) (ad : Nat → Nat → Nat) (σ : Sg) (u : Nat → Int64) (τ : Sg) (hI : INV σ) (n : Int32) : vx_Met la yX6_recipeNumbered wsX6_recipeNumbered ({ frames := 6, cells := 1, slots := 6, locals := 100 } : Room) (va_Pc [.ref (ad 0 0), .int n] (fun U => XR g ad σ u τ U.heap ∧ EV g lo U)) (QX (eR σ n) (.returned (some (.ref (ad 12 (ti n)))))) (XX (eR σ n)) 1 6 (fun _ => False) := by
  refine vx_ofW (cc := cX6_recipeNumbered) (maxL := 3) (ret := (some (.object "DyehouseLedger$Recipe"))) (by decide) rfl ?_
  intro p e s m args below meth c s₁ B hml ht hv
  obtain ⟨rfl, hX, hE⟩ := hv
  have hK := hE.1
  have hx := B.exec
  have hb := B.bytes
  have hr := B.returns
  have hts := atoms_spec (ws := wsX6_recipeNumbered) B.pre
  have hown : s.vm.findClass RX6 = some m.cls := findClass_of_methodNamed B.named
  have hlocks := B.notSynchronized
  have hinX6 : ∀ w ∈ wsX60, w ∈ wsX6_recipeNumbered := by decide +kernel
  have lk11 := hts (.fieldLink RX6 11 "DyehouseLedger" "allRecipes" "[LDyehouseLedger$Recipe;") (by decide +kernel)
  have ti1 := hts (.initialized "java/util/NoSuchElementException") (by decide +kernel)
  have tk1 := hts (.classLink RX6 269 "java/util/NoSuchElementException") (by decide +kernel)
  have tw1 : ∀ w ∈ (vx_at0 RX6 271 (en 1) exN).filter goodWord, w.before _ s = true := fun w h => hts w (tw_inX6_recipeNumbered_1 w h)
  have hl := lv_entry ([.ref (ad 0 0), .int n]) (n := 3) (Nat.le_of_ble_eq_true rfl)
  rw [lg_entry_eq]
  generalize (lg_sl ([.ref (ad 0 0), .int n]) ++ List.replicate (3 - (lg_sl ([.ref (ad 0 0), .int n])).length) Slot.unset).toArray = ls at hl ⊢
  have hl : lv_has ls 3 [(0, .ref (ad 0 0)), (1, .int n)] := hl
  refine lv_iload_n hx hb dX6_recipeNumbered_0 rfl (lv_at hl 1 rfl) ?_
  refine lv_if_lt (tgt := 22) hx hb dX6_recipeNumbered_1 (by decide) (fun c_1 => ?_) (fun c_1 => ?_)
  · refine lv_null hx hb dX6_recipeNumbered_22 ?_
    refine lv_astore_nN (lv' := [(2, .null), (0, .ref (ad 0 0)), (1, .int n)]) hx hb dX6_recipeNumbered_23 rfl hl (by decide) rfl (fun ls hl => ?_)
    refine lv_aload_nN hx hb dX6_recipeNumbered_24 rfl (lv_at hl 0 rfl) ?_
    refine lv_ifnonnullN hx hb dX6_recipeNumbered_25 ?_
    exact x_throw (k9 := 1) (ic := 271) hx hb hst hown hE ht hlocks (hl.1.trans hml.symm) (fun _ _ _ => trivial) (by decide) tk1 ti1 tw1 bad1 good1 (by decide) (eR_1 hI (by first | exact Or.inl (by assumption) | exact Or.inr (Or.inl (by assumption)) | exact Or.inr (Or.inr (by assumption)))) dX6_recipeNumbered_28 dX6_recipeNumbered_31 dX6_recipeNumbered_32 dX6_recipeNumbered_35 (Nat.le_of_ble_eq_true rfl) (Nat.le_of_ble_eq_true rfl) (Nat.le_of_ble_eq_true rfl) (Nat.le_of_ble_eq_true rfl) (Nat.le_of_ble_eq_true rfl) (Nat.le_of_ble_eq_true rfl)
  · refine lv_iload_n hx hb dX6_recipeNumbered_4 rfl (lv_at hl 1 rfl) ?_
    refine lv_aload_n hx hb dX6_recipeNumbered_5 rfl (lv_at hl 0 rfl) ?_
    refine x_get (K := 0) (i := 0) (v := .ref (ad 1 0)) hx hb hts hinX6 hown hK hX (show 0 < 1 from Nat.zero_lt_one) 0 rfl rfl (by decide) rfl lk11 rfl dX6_recipeNumbered_6 ?_
    refine x_alen (K := 1) (t0 := 5) (v := 8) hx hb hK hX (show 0 < 1 from Nat.zero_lt_one) rfl rfl rfl dX6_recipeNumbered_9 ?_
    refine lv_icmp_ge (tgt := 22) hx hb dX6_recipeNumbered_10 (by decide) (fun c_2 => ?_) (fun c_2 => ?_)
    · replace c_2 := Int32.not_lt.mpr c_2
      refine lv_null hx hb dX6_recipeNumbered_22 ?_
      refine lv_astore_nN (lv' := [(2, .null), (0, .ref (ad 0 0)), (1, .int n)]) hx hb dX6_recipeNumbered_23 rfl hl (by decide) rfl (fun ls hl => ?_)
      refine lv_aload_nN hx hb dX6_recipeNumbered_24 rfl (lv_at hl 0 rfl) ?_
      refine lv_ifnonnullN hx hb dX6_recipeNumbered_25 ?_
      exact x_throw (k9 := 1) (ic := 271) hx hb hst hown hE ht hlocks (hl.1.trans hml.symm) (fun _ _ _ => trivial) (by decide) tk1 ti1 tw1 bad1 good1 (by decide) (eR_1 hI (by first | exact Or.inl (by assumption) | exact Or.inr (Or.inl (by assumption)) | exact Or.inr (Or.inr (by assumption)))) dX6_recipeNumbered_28 dX6_recipeNumbered_31 dX6_recipeNumbered_32 dX6_recipeNumbered_35 (Nat.le_of_ble_eq_true rfl) (Nat.le_of_ble_eq_true rfl) (Nat.le_of_ble_eq_true rfl) (Nat.le_of_ble_eq_true rfl) (Nat.le_of_ble_eq_true rfl) (Nat.le_of_ble_eq_true rfl)
    · replace c_2 := Int32.not_le.mp c_2
      refine lv_aload_n hx hb dX6_recipeNumbered_13 rfl (lv_at hl 0 rfl) ?_
      refine x_get (K := 0) (i := 0) (v := .ref (ad 1 0)) hx hb hts hinX6 hown hK hX (show 0 < 1 from Nat.zero_lt_one) 0 rfl rfl (by decide) rfl lk11 rfl dX6_recipeNumbered_14 ?_
      refine lv_iload_n hx hb dX6_recipeNumbered_17 rfl (lv_at hl 1 rfl) ?_
      by_cases z_3 : (ti n) < nR σ
      · refine x_aald (K := 1) (t0 := 5) (C := RX3) (n := 8) (f := refA ad 12 (nR σ)) (j := n) (v := .ref (ad 12 (ti n))) hx hb hK hX (show 0 < 1 from Nat.zero_lt_one) rfl rfl (vin_of (by decide) (by assumption) (by assumption)) (by exact refA_in z_3) dX6_recipeNumbered_18 ?_
        refine lv_goto (tgt := 23) hx hb dX6_recipeNumbered_19 (by decide) ?_
        refine lv_astore_n (lv' := [(2, .ref (ad 12 (ti n))), (0, .ref (ad 0 0)), (1, .int n)]) hx hb dX6_recipeNumbered_23 rfl hl (by decide) rfl (fun ls hl => ?_)
        refine lv_aload_n hx hb dX6_recipeNumbered_24 rfl (lv_at hl 0 rfl) ?_
        refine lv_ifnonnull (tgt := 36) hx hb dX6_recipeNumbered_25 (by decide) ?_
        refine lv_aload_n hx hb dX6_recipeNumbered_36 rfl (lv_at hl 0 rfl) ?_
        refine vx_ret ?_
        refine W.widen (k := 1) (n := 6) (Nat.le_of_ble_eq_true rfl) (Nat.le_of_ble_eq_true rfl) ?_
        exact W.aret (v := .ref (ad 12 (ti n))) hx hb hr (Or.inl ⟨_, rfl⟩) (Or.inr ⟨_, rfl⟩) (fun t ht9 hW => ⟨(eR_0 hI (by assumption) (by assumption)), rfl, ht9⟩) (fun _ h => nomatch h) dX6_recipeNumbered_37
      · refine x_aald (K := 1) (t0 := 5) (C := RX3) (n := 8) (f := refA ad 12 (nR σ)) (j := n) (v := .null) hx hb hK hX (show 0 < 1 from Nat.zero_lt_one) rfl rfl (vin_of (by decide) (by assumption) (by assumption)) (by exact refA_no z_3) dX6_recipeNumbered_18 ?_
        refine lv_goto (tgt := 23) hx hb dX6_recipeNumbered_19 (by decide) ?_
        refine lv_astore_nN (lv' := [(2, .null), (0, .ref (ad 0 0)), (1, .int n)]) hx hb dX6_recipeNumbered_23 rfl hl (by decide) rfl (fun ls hl => ?_)
        refine lv_aload_nN hx hb dX6_recipeNumbered_24 rfl (lv_at hl 0 rfl) ?_
        refine lv_ifnonnullN hx hb dX6_recipeNumbered_25 ?_
        exact x_throw (k9 := 1) (ic := 271) hx hb hst hown hE ht hlocks (hl.1.trans hml.symm) (fun _ _ _ => trivial) (by decide) tk1 ti1 tw1 bad1 good1 (by decide) (eR_1 hI (by first | exact Or.inl (by assumption) | exact Or.inr (Or.inl (by assumption)) | exact Or.inr (Or.inr (by assumption)))) dX6_recipeNumbered_28 dX6_recipeNumbered_31 dX6_recipeNumbered_32 dX6_recipeNumbered_35 (Nat.le_of_ble_eq_true rfl) (Nat.le_of_ble_eq_true rfl) (Nat.le_of_ble_eq_true rfl) (Nat.le_of_ble_eq_true rfl) (Nat.le_of_ble_eq_true rfl) (Nat.le_of_ble_eq_true rfl)
theorem tw_inX6_orderNumbered_1 : ∀ w ∈ (vx_at0 RX6 271 (en 1) exN).filter goodWord, w ∈ wsX6_orderNumbered := by decide +kernel
set_option maxHeartbeats 4000000 in
set_option maxRecDepth 100000 in
theorem qX6_orderNumbered (la : Launch) (hst : la.stackTraces = false) (g : EG) (lo : Nat) (ad : Nat → Nat → Nat) (σ : Sg) (u : Nat → Int64) (τ : Sg) (hI : INV σ) (n : Int32) : vx_Met la yX6_orderNumbered wsX6_orderNumbered ({ frames := 6, cells := 1, slots := 6, locals := 100 } : Room) (va_Pc [.ref (ad 0 0), .int n] (fun U => XR g ad σ u τ U.heap ∧ EV g lo U)) (QX (eO σ n) (.returned (some (.ref (ad 15 (ti n)))))) (XX (eO σ n)) 1 6 (fun _ => False) := by
  refine vx_ofW (cc := cX6_orderNumbered) (maxL := 3) (ret := (some (.object "DyehouseLedger$Order"))) (by decide) rfl ?_
  intro p e s m args below meth c s₁ B hml ht hv
  obtain ⟨rfl, hX, hE⟩ := hv
  have hK := hE.1
  have hx := B.exec
  have hb := B.bytes
  have hr := B.returns
  have hts := atoms_spec (ws := wsX6_orderNumbered) B.pre
  have hown : s.vm.findClass RX6 = some m.cls := findClass_of_methodNamed B.named
  have hlocks := B.notSynchronized
  have hinX6 : ∀ w ∈ wsX60, w ∈ wsX6_orderNumbered := by decide +kernel
  have lk17 := hts (.fieldLink RX6 17 "DyehouseLedger" "allOrders" "[LDyehouseLedger$Order;") (by decide +kernel)
  have ti1 := hts (.initialized "java/util/NoSuchElementException") (by decide +kernel)
  have tk1 := hts (.classLink RX6 269 "java/util/NoSuchElementException") (by decide +kernel)
  have tw1 : ∀ w ∈ (vx_at0 RX6 271 (en 1) exN).filter goodWord, w.before _ s = true := fun w h => hts w (tw_inX6_orderNumbered_1 w h)
  have hl := lv_entry ([.ref (ad 0 0), .int n]) (n := 3) (Nat.le_of_ble_eq_true rfl)
  rw [lg_entry_eq]
  generalize (lg_sl ([.ref (ad 0 0), .int n]) ++ List.replicate (3 - (lg_sl ([.ref (ad 0 0), .int n])).length) Slot.unset).toArray = ls at hl ⊢
  have hl : lv_has ls 3 [(0, .ref (ad 0 0)), (1, .int n)] := hl
  refine lv_iload_n hx hb dX6_orderNumbered_0 rfl (lv_at hl 1 rfl) ?_
  refine lv_if_lt (tgt := 22) hx hb dX6_orderNumbered_1 (by decide) (fun c_1 => ?_) (fun c_1 => ?_)
  · refine lv_null hx hb dX6_orderNumbered_22 ?_
    refine lv_astore_nN (lv' := [(2, .null), (0, .ref (ad 0 0)), (1, .int n)]) hx hb dX6_orderNumbered_23 rfl hl (by decide) rfl (fun ls hl => ?_)
    refine lv_aload_nN hx hb dX6_orderNumbered_24 rfl (lv_at hl 0 rfl) ?_
    refine lv_ifnonnullN hx hb dX6_orderNumbered_25 ?_
    exact x_throw (k9 := 1) (ic := 271) hx hb hst hown hE ht hlocks (hl.1.trans hml.symm) (fun _ _ _ => trivial) (by decide) tk1 ti1 tw1 bad1 good1 (by decide) (eO_1 hI (by first | exact Or.inl (by assumption) | exact Or.inr (Or.inl (by assumption)) | exact Or.inr (Or.inr (by assumption)))) dX6_orderNumbered_28 dX6_orderNumbered_31 dX6_orderNumbered_32 dX6_orderNumbered_35 (Nat.le_of_ble_eq_true rfl) (Nat.le_of_ble_eq_true rfl) (Nat.le_of_ble_eq_true rfl) (Nat.le_of_ble_eq_true rfl) (Nat.le_of_ble_eq_true rfl) (Nat.le_of_ble_eq_true rfl)
  · refine lv_iload_n hx hb dX6_orderNumbered_4 rfl (lv_at hl 1 rfl) ?_
    refine lv_aload_n hx hb dX6_orderNumbered_5 rfl (lv_at hl 0 rfl) ?_
    refine x_get (K := 0) (i := 0) (v := .ref (ad 2 0)) hx hb hts hinX6 hown hK hX (show 0 < 1 from Nat.zero_lt_one) 1 rfl rfl (by decide) rfl lk17 rfl dX6_orderNumbered_6 ?_
    refine x_alen (K := 2) (t0 := 4) (v := 6) hx hb hK hX (show 0 < 1 from Nat.zero_lt_one) rfl rfl rfl dX6_orderNumbered_9 ?_
    refine lv_icmp_ge (tgt := 22) hx hb dX6_orderNumbered_10 (by decide) (fun c_2 => ?_) (fun c_2 => ?_)
    · replace c_2 := Int32.not_lt.mpr c_2
      refine lv_null hx hb dX6_orderNumbered_22 ?_
      refine lv_astore_nN (lv' := [(2, .null), (0, .ref (ad 0 0)), (1, .int n)]) hx hb dX6_orderNumbered_23 rfl hl (by decide) rfl (fun ls hl => ?_)
      refine lv_aload_nN hx hb dX6_orderNumbered_24 rfl (lv_at hl 0 rfl) ?_
      refine lv_ifnonnullN hx hb dX6_orderNumbered_25 ?_
      exact x_throw (k9 := 1) (ic := 271) hx hb hst hown hE ht hlocks (hl.1.trans hml.symm) (fun _ _ _ => trivial) (by decide) tk1 ti1 tw1 bad1 good1 (by decide) (eO_1 hI (by first | exact Or.inl (by assumption) | exact Or.inr (Or.inl (by assumption)) | exact Or.inr (Or.inr (by assumption)))) dX6_orderNumbered_28 dX6_orderNumbered_31 dX6_orderNumbered_32 dX6_orderNumbered_35 (Nat.le_of_ble_eq_true rfl) (Nat.le_of_ble_eq_true rfl) (Nat.le_of_ble_eq_true rfl) (Nat.le_of_ble_eq_true rfl) (Nat.le_of_ble_eq_true rfl) (Nat.le_of_ble_eq_true rfl)
    · replace c_2 := Int32.not_le.mp c_2
      refine lv_aload_n hx hb dX6_orderNumbered_13 rfl (lv_at hl 0 rfl) ?_
      refine x_get (K := 0) (i := 0) (v := .ref (ad 2 0)) hx hb hts hinX6 hown hK hX (show 0 < 1 from Nat.zero_lt_one) 1 rfl rfl (by decide) rfl lk17 rfl dX6_orderNumbered_14 ?_
      refine lv_iload_n hx hb dX6_orderNumbered_17 rfl (lv_at hl 1 rfl) ?_
      by_cases z_3 : (ti n) < nO σ
      · refine x_aald (K := 2) (t0 := 4) (C := RX1) (n := 6) (f := refA ad 15 (nO σ)) (j := n) (v := .ref (ad 15 (ti n))) hx hb hK hX (show 0 < 1 from Nat.zero_lt_one) rfl rfl (vin_of (by decide) (by assumption) (by assumption)) (by exact refA_in z_3) dX6_orderNumbered_18 ?_
        refine lv_goto (tgt := 23) hx hb dX6_orderNumbered_19 (by decide) ?_
        refine lv_astore_n (lv' := [(2, .ref (ad 15 (ti n))), (0, .ref (ad 0 0)), (1, .int n)]) hx hb dX6_orderNumbered_23 rfl hl (by decide) rfl (fun ls hl => ?_)
        refine lv_aload_n hx hb dX6_orderNumbered_24 rfl (lv_at hl 0 rfl) ?_
        refine lv_ifnonnull (tgt := 36) hx hb dX6_orderNumbered_25 (by decide) ?_
        refine lv_aload_n hx hb dX6_orderNumbered_36 rfl (lv_at hl 0 rfl) ?_
        refine vx_ret ?_
        refine W.widen (k := 1) (n := 6) (Nat.le_of_ble_eq_true rfl) (Nat.le_of_ble_eq_true rfl) ?_
        exact W.aret (v := .ref (ad 15 (ti n))) hx hb hr (Or.inl ⟨_, rfl⟩) (Or.inr ⟨_, rfl⟩) (fun t ht9 hW => ⟨(eO_0 hI (by assumption) (by assumption)), rfl, ht9⟩) (fun _ h => nomatch h) dX6_orderNumbered_37
      · refine x_aald (K := 2) (t0 := 4) (C := RX1) (n := 6) (f := refA ad 15 (nO σ)) (j := n) (v := .null) hx hb hK hX (show 0 < 1 from Nat.zero_lt_one) rfl rfl (vin_of (by decide) (by assumption) (by assumption)) (by exact refA_no z_3) dX6_orderNumbered_18 ?_
        refine lv_goto (tgt := 23) hx hb dX6_orderNumbered_19 (by decide) ?_
        refine lv_astore_nN (lv' := [(2, .null), (0, .ref (ad 0 0)), (1, .int n)]) hx hb dX6_orderNumbered_23 rfl hl (by decide) rfl (fun ls hl => ?_)
        refine lv_aload_nN hx hb dX6_orderNumbered_24 rfl (lv_at hl 0 rfl) ?_
        refine lv_ifnonnullN hx hb dX6_orderNumbered_25 ?_
        exact x_throw (k9 := 1) (ic := 271) hx hb hst hown hE ht hlocks (hl.1.trans hml.symm) (fun _ _ _ => trivial) (by decide) tk1 ti1 tw1 bad1 good1 (by decide) (eO_1 hI (by first | exact Or.inl (by assumption) | exact Or.inr (Or.inl (by assumption)) | exact Or.inr (Or.inr (by assumption)))) dX6_orderNumbered_28 dX6_orderNumbered_31 dX6_orderNumbered_32 dX6_orderNumbered_35 (Nat.le_of_ble_eq_true rfl) (Nat.le_of_ble_eq_true rfl) (Nat.le_of_ble_eq_true rfl) (Nat.le_of_ble_eq_true rfl) (Nat.le_of_ble_eq_true rfl) (Nat.le_of_ble_eq_true rfl)
theorem tw_inX6_lotNumbered_1 : ∀ w ∈ (vx_at0 RX6 271 (en 1) exN).filter goodWord, w ∈ wsX6_lotNumbered := by decide +kernel
set_option maxHeartbeats 4000000 in
set_option maxRecDepth 100000 in
theorem qX6_lotNumbered (la : Launch) (hst : la.stackTraces = false) (g : EG) (lo : Nat) (ad : Nat → Nat → Nat) (σ : Sg) (u : Nat → Int64) (τ : Sg) (hI : INV σ) (n : Int32) : vx_Met la yX6_lotNumbered wsX6_lotNumbered ({ frames := 6, cells := 1, slots := 6, locals := 100 } : Room) (va_Pc [.ref (ad 0 0), .int n] (fun U => XR g ad σ u τ U.heap ∧ EV g lo U)) (QX (eL σ n) (.returned (some (.ref (ad 16 (ti n)))))) (XX (eL σ n)) 1 6 (fun _ => False) := by
  refine vx_ofW (cc := cX6_lotNumbered) (maxL := 3) (ret := (some (.object "DyehouseLedger$Lot"))) (by decide) rfl ?_
  intro p e s m args below meth c s₁ B hml ht hv
  obtain ⟨rfl, hX, hE⟩ := hv
  have hK := hE.1
  have hx := B.exec
  have hb := B.bytes
  have hr := B.returns
  have hts := atoms_spec (ws := wsX6_lotNumbered) B.pre
  have hown : s.vm.findClass RX6 = some m.cls := findClass_of_methodNamed B.named
  have hlocks := B.notSynchronized
  have hinX6 : ∀ w ∈ wsX60, w ∈ wsX6_lotNumbered := by decide +kernel
  have lk23 := hts (.fieldLink RX6 23 "DyehouseLedger" "allLots" "[LDyehouseLedger$Lot;") (by decide +kernel)
  have ti1 := hts (.initialized "java/util/NoSuchElementException") (by decide +kernel)
  have tk1 := hts (.classLink RX6 269 "java/util/NoSuchElementException") (by decide +kernel)
  have tw1 : ∀ w ∈ (vx_at0 RX6 271 (en 1) exN).filter goodWord, w.before _ s = true := fun w h => hts w (tw_inX6_lotNumbered_1 w h)
  have hl := lv_entry ([.ref (ad 0 0), .int n]) (n := 3) (Nat.le_of_ble_eq_true rfl)
  rw [lg_entry_eq]
  generalize (lg_sl ([.ref (ad 0 0), .int n]) ++ List.replicate (3 - (lg_sl ([.ref (ad 0 0), .int n])).length) Slot.unset).toArray = ls at hl ⊢
  have hl : lv_has ls 3 [(0, .ref (ad 0 0)), (1, .int n)] := hl
  refine lv_iload_n hx hb dX6_lotNumbered_0 rfl (lv_at hl 1 rfl) ?_
  refine lv_if_lt (tgt := 22) hx hb dX6_lotNumbered_1 (by decide) (fun c_1 => ?_) (fun c_1 => ?_)
  · refine lv_null hx hb dX6_lotNumbered_22 ?_
    refine lv_astore_nN (lv' := [(2, .null), (0, .ref (ad 0 0)), (1, .int n)]) hx hb dX6_lotNumbered_23 rfl hl (by decide) rfl (fun ls hl => ?_)
    refine lv_aload_nN hx hb dX6_lotNumbered_24 rfl (lv_at hl 0 rfl) ?_
    refine lv_ifnonnullN hx hb dX6_lotNumbered_25 ?_
    exact x_throw (k9 := 1) (ic := 271) hx hb hst hown hE ht hlocks (hl.1.trans hml.symm) (fun _ _ _ => trivial) (by decide) tk1 ti1 tw1 bad1 good1 (by decide) (eL_1 hI (by first | exact Or.inl (by assumption) | exact Or.inr (Or.inl (by assumption)) | exact Or.inr (Or.inr (by assumption)))) dX6_lotNumbered_28 dX6_lotNumbered_31 dX6_lotNumbered_32 dX6_lotNumbered_35 (Nat.le_of_ble_eq_true rfl) (Nat.le_of_ble_eq_true rfl) (Nat.le_of_ble_eq_true rfl) (Nat.le_of_ble_eq_true rfl) (Nat.le_of_ble_eq_true rfl) (Nat.le_of_ble_eq_true rfl)
  · refine lv_iload_n hx hb dX6_lotNumbered_4 rfl (lv_at hl 1 rfl) ?_
    refine lv_aload_n hx hb dX6_lotNumbered_5 rfl (lv_at hl 0 rfl) ?_
    refine x_get (K := 0) (i := 0) (v := .ref (ad 3 0)) hx hb hts hinX6 hown hK hX (show 0 < 1 from Nat.zero_lt_one) 2 rfl rfl (by decide) rfl lk23 rfl dX6_lotNumbered_6 ?_
    refine x_alen (K := 3) (t0 := 3) (v := 24) hx hb hK hX (show 0 < 1 from Nat.zero_lt_one) rfl rfl rfl dX6_lotNumbered_9 ?_
    refine lv_icmp_ge (tgt := 22) hx hb dX6_lotNumbered_10 (by decide) (fun c_2 => ?_) (fun c_2 => ?_)
    · replace c_2 := Int32.not_lt.mpr c_2
      refine lv_null hx hb dX6_lotNumbered_22 ?_
      refine lv_astore_nN (lv' := [(2, .null), (0, .ref (ad 0 0)), (1, .int n)]) hx hb dX6_lotNumbered_23 rfl hl (by decide) rfl (fun ls hl => ?_)
      refine lv_aload_nN hx hb dX6_lotNumbered_24 rfl (lv_at hl 0 rfl) ?_
      refine lv_ifnonnullN hx hb dX6_lotNumbered_25 ?_
      exact x_throw (k9 := 1) (ic := 271) hx hb hst hown hE ht hlocks (hl.1.trans hml.symm) (fun _ _ _ => trivial) (by decide) tk1 ti1 tw1 bad1 good1 (by decide) (eL_1 hI (by first | exact Or.inl (by assumption) | exact Or.inr (Or.inl (by assumption)) | exact Or.inr (Or.inr (by assumption)))) dX6_lotNumbered_28 dX6_lotNumbered_31 dX6_lotNumbered_32 dX6_lotNumbered_35 (Nat.le_of_ble_eq_true rfl) (Nat.le_of_ble_eq_true rfl) (Nat.le_of_ble_eq_true rfl) (Nat.le_of_ble_eq_true rfl) (Nat.le_of_ble_eq_true rfl) (Nat.le_of_ble_eq_true rfl)
    · replace c_2 := Int32.not_le.mp c_2
      refine lv_aload_n hx hb dX6_lotNumbered_13 rfl (lv_at hl 0 rfl) ?_
      refine x_get (K := 0) (i := 0) (v := .ref (ad 3 0)) hx hb hts hinX6 hown hK hX (show 0 < 1 from Nat.zero_lt_one) 2 rfl rfl (by decide) rfl lk23 rfl dX6_lotNumbered_14 ?_
      refine lv_iload_n hx hb dX6_lotNumbered_17 rfl (lv_at hl 1 rfl) ?_
      by_cases z_3 : (ti n) < nL σ
      · refine x_aald (K := 3) (t0 := 3) (C := RX0) (n := 24) (f := refA ad 16 (nL σ)) (j := n) (v := .ref (ad 16 (ti n))) hx hb hK hX (show 0 < 1 from Nat.zero_lt_one) rfl rfl (vin_of (by decide) (by assumption) (by assumption)) (by exact refA_in z_3) dX6_lotNumbered_18 ?_
        refine lv_goto (tgt := 23) hx hb dX6_lotNumbered_19 (by decide) ?_
        refine lv_astore_n (lv' := [(2, .ref (ad 16 (ti n))), (0, .ref (ad 0 0)), (1, .int n)]) hx hb dX6_lotNumbered_23 rfl hl (by decide) rfl (fun ls hl => ?_)
        refine lv_aload_n hx hb dX6_lotNumbered_24 rfl (lv_at hl 0 rfl) ?_
        refine lv_ifnonnull (tgt := 36) hx hb dX6_lotNumbered_25 (by decide) ?_
        refine lv_aload_n hx hb dX6_lotNumbered_36 rfl (lv_at hl 0 rfl) ?_
        refine vx_ret ?_
        refine W.widen (k := 1) (n := 6) (Nat.le_of_ble_eq_true rfl) (Nat.le_of_ble_eq_true rfl) ?_
        exact W.aret (v := .ref (ad 16 (ti n))) hx hb hr (Or.inl ⟨_, rfl⟩) (Or.inr ⟨_, rfl⟩) (fun t ht9 hW => ⟨(eL_0 hI (by assumption) (by assumption)), rfl, ht9⟩) (fun _ h => nomatch h) dX6_lotNumbered_37
      · refine x_aald (K := 3) (t0 := 3) (C := RX0) (n := 24) (f := refA ad 16 (nL σ)) (j := n) (v := .null) hx hb hK hX (show 0 < 1 from Nat.zero_lt_one) rfl rfl (vin_of (by decide) (by assumption) (by assumption)) (by exact refA_no z_3) dX6_lotNumbered_18 ?_
        refine lv_goto (tgt := 23) hx hb dX6_lotNumbered_19 (by decide) ?_
        refine lv_astore_nN (lv' := [(2, .null), (0, .ref (ad 0 0)), (1, .int n)]) hx hb dX6_lotNumbered_23 rfl hl (by decide) rfl (fun ls hl => ?_)
        refine lv_aload_nN hx hb dX6_lotNumbered_24 rfl (lv_at hl 0 rfl) ?_
        refine lv_ifnonnullN hx hb dX6_lotNumbered_25 ?_
        exact x_throw (k9 := 1) (ic := 271) hx hb hst hown hE ht hlocks (hl.1.trans hml.symm) (fun _ _ _ => trivial) (by decide) tk1 ti1 tw1 bad1 good1 (by decide) (eL_1 hI (by first | exact Or.inl (by assumption) | exact Or.inr (Or.inl (by assumption)) | exact Or.inr (Or.inr (by assumption)))) dX6_lotNumbered_28 dX6_lotNumbered_31 dX6_lotNumbered_32 dX6_lotNumbered_35 (Nat.le_of_ble_eq_true rfl) (Nat.le_of_ble_eq_true rfl) (Nat.le_of_ble_eq_true rfl) (Nat.le_of_ble_eq_true rfl) (Nat.le_of_ble_eq_true rfl) (Nat.le_of_ble_eq_true rfl)
theorem tw_inX6_vatNumbered_1 : ∀ w ∈ (vx_at0 RX6 271 (en 1) exN).filter goodWord, w ∈ wsX6_vatNumbered := by decide +kernel
set_option maxHeartbeats 4000000 in
set_option maxRecDepth 100000 in
theorem qX6_vatNumbered (la : Launch) (hst : la.stackTraces = false) (g : EG) (lo : Nat) (ad : Nat → Nat → Nat) (σ : Sg) (u : Nat → Int64) (τ : Sg) (hI : INV σ) (n : Int32) : vx_Met la yX6_vatNumbered wsX6_vatNumbered ({ frames := 6, cells := 1, slots := 6, locals := 100 } : Room) (va_Pc [.ref (ad 0 0), .int n] (fun U => XR g ad σ u τ U.heap ∧ EV g lo U)) (QX (eV σ n) (.returned (some (.ref (ad 18 (ti n)))))) (XX (eV σ n)) 1 6 (fun _ => False) := by
  refine vx_ofW (cc := cX6_vatNumbered) (maxL := 3) (ret := (some (.object "DyehouseLedger$Vat"))) (by decide) rfl ?_
  intro p e s m args below meth c s₁ B hml ht hv
  obtain ⟨rfl, hX, hE⟩ := hv
  have hK := hE.1
  have hx := B.exec
  have hb := B.bytes
  have hr := B.returns
  have hts := atoms_spec (ws := wsX6_vatNumbered) B.pre
  have hown : s.vm.findClass RX6 = some m.cls := findClass_of_methodNamed B.named
  have hlocks := B.notSynchronized
  have hinX6 : ∀ w ∈ wsX60, w ∈ wsX6_vatNumbered := by decide +kernel
  have lk29 := hts (.fieldLink RX6 29 "DyehouseLedger" "allVats" "[LDyehouseLedger$Vat;") (by decide +kernel)
  have ti1 := hts (.initialized "java/util/NoSuchElementException") (by decide +kernel)
  have tk1 := hts (.classLink RX6 269 "java/util/NoSuchElementException") (by decide +kernel)
  have tw1 : ∀ w ∈ (vx_at0 RX6 271 (en 1) exN).filter goodWord, w.before _ s = true := fun w h => hts w (tw_inX6_vatNumbered_1 w h)
  have hl := lv_entry ([.ref (ad 0 0), .int n]) (n := 3) (Nat.le_of_ble_eq_true rfl)
  rw [lg_entry_eq]
  generalize (lg_sl ([.ref (ad 0 0), .int n]) ++ List.replicate (3 - (lg_sl ([.ref (ad 0 0), .int n])).length) Slot.unset).toArray = ls at hl ⊢
  have hl : lv_has ls 3 [(0, .ref (ad 0 0)), (1, .int n)] := hl
  refine lv_iload_n hx hb dX6_vatNumbered_0 rfl (lv_at hl 1 rfl) ?_
  refine lv_if_lt (tgt := 22) hx hb dX6_vatNumbered_1 (by decide) (fun c_1 => ?_) (fun c_1 => ?_)
  · refine lv_null hx hb dX6_vatNumbered_22 ?_
    refine lv_astore_nN (lv' := [(2, .null), (0, .ref (ad 0 0)), (1, .int n)]) hx hb dX6_vatNumbered_23 rfl hl (by decide) rfl (fun ls hl => ?_)
    refine lv_aload_nN hx hb dX6_vatNumbered_24 rfl (lv_at hl 0 rfl) ?_
    refine lv_ifnonnullN hx hb dX6_vatNumbered_25 ?_
    exact x_throw (k9 := 1) (ic := 271) hx hb hst hown hE ht hlocks (hl.1.trans hml.symm) (fun _ _ _ => trivial) (by decide) tk1 ti1 tw1 bad1 good1 (by decide) (eV_1 hI (by first | exact Or.inl (by assumption) | exact Or.inr (Or.inl (by assumption)) | exact Or.inr (Or.inr (by assumption)))) dX6_vatNumbered_28 dX6_vatNumbered_31 dX6_vatNumbered_32 dX6_vatNumbered_35 (Nat.le_of_ble_eq_true rfl) (Nat.le_of_ble_eq_true rfl) (Nat.le_of_ble_eq_true rfl) (Nat.le_of_ble_eq_true rfl) (Nat.le_of_ble_eq_true rfl) (Nat.le_of_ble_eq_true rfl)
  · refine lv_iload_n hx hb dX6_vatNumbered_4 rfl (lv_at hl 1 rfl) ?_
    refine lv_aload_n hx hb dX6_vatNumbered_5 rfl (lv_at hl 0 rfl) ?_
    refine x_get (K := 0) (i := 0) (v := .ref (ad 4 0)) hx hb hts hinX6 hown hK hX (show 0 < 1 from Nat.zero_lt_one) 3 rfl rfl (by decide) rfl lk29 rfl dX6_vatNumbered_6 ?_
    refine x_alen (K := 4) (t0 := 6) (v := 4) hx hb hK hX (show 0 < 1 from Nat.zero_lt_one) rfl rfl rfl dX6_vatNumbered_9 ?_
    refine lv_icmp_ge (tgt := 22) hx hb dX6_vatNumbered_10 (by decide) (fun c_2 => ?_) (fun c_2 => ?_)
    · replace c_2 := Int32.not_lt.mpr c_2
      refine lv_null hx hb dX6_vatNumbered_22 ?_
      refine lv_astore_nN (lv' := [(2, .null), (0, .ref (ad 0 0)), (1, .int n)]) hx hb dX6_vatNumbered_23 rfl hl (by decide) rfl (fun ls hl => ?_)
      refine lv_aload_nN hx hb dX6_vatNumbered_24 rfl (lv_at hl 0 rfl) ?_
      refine lv_ifnonnullN hx hb dX6_vatNumbered_25 ?_
      exact x_throw (k9 := 1) (ic := 271) hx hb hst hown hE ht hlocks (hl.1.trans hml.symm) (fun _ _ _ => trivial) (by decide) tk1 ti1 tw1 bad1 good1 (by decide) (eV_1 hI (by first | exact Or.inl (by assumption) | exact Or.inr (Or.inl (by assumption)) | exact Or.inr (Or.inr (by assumption)))) dX6_vatNumbered_28 dX6_vatNumbered_31 dX6_vatNumbered_32 dX6_vatNumbered_35 (Nat.le_of_ble_eq_true rfl) (Nat.le_of_ble_eq_true rfl) (Nat.le_of_ble_eq_true rfl) (Nat.le_of_ble_eq_true rfl) (Nat.le_of_ble_eq_true rfl) (Nat.le_of_ble_eq_true rfl)
    · replace c_2 := Int32.not_le.mp c_2
      refine lv_aload_n hx hb dX6_vatNumbered_13 rfl (lv_at hl 0 rfl) ?_
      refine x_get (K := 0) (i := 0) (v := .ref (ad 4 0)) hx hb hts hinX6 hown hK hX (show 0 < 1 from Nat.zero_lt_one) 3 rfl rfl (by decide) rfl lk29 rfl dX6_vatNumbered_14 ?_
      refine lv_iload_n hx hb dX6_vatNumbered_17 rfl (lv_at hl 1 rfl) ?_
      by_cases z_3 : (ti n) < nV σ
      · refine x_aald (K := 4) (t0 := 6) (C := RX5) (n := 4) (f := refA ad 18 (nV σ)) (j := n) (v := .ref (ad 18 (ti n))) hx hb hK hX (show 0 < 1 from Nat.zero_lt_one) rfl rfl (vin_of (by decide) (by assumption) (by assumption)) (by exact refA_in z_3) dX6_vatNumbered_18 ?_
        refine lv_goto (tgt := 23) hx hb dX6_vatNumbered_19 (by decide) ?_
        refine lv_astore_n (lv' := [(2, .ref (ad 18 (ti n))), (0, .ref (ad 0 0)), (1, .int n)]) hx hb dX6_vatNumbered_23 rfl hl (by decide) rfl (fun ls hl => ?_)
        refine lv_aload_n hx hb dX6_vatNumbered_24 rfl (lv_at hl 0 rfl) ?_
        refine lv_ifnonnull (tgt := 36) hx hb dX6_vatNumbered_25 (by decide) ?_
        refine lv_aload_n hx hb dX6_vatNumbered_36 rfl (lv_at hl 0 rfl) ?_
        refine vx_ret ?_
        refine W.widen (k := 1) (n := 6) (Nat.le_of_ble_eq_true rfl) (Nat.le_of_ble_eq_true rfl) ?_
        exact W.aret (v := .ref (ad 18 (ti n))) hx hb hr (Or.inl ⟨_, rfl⟩) (Or.inr ⟨_, rfl⟩) (fun t ht9 hW => ⟨(eV_0 hI (by assumption) (by assumption)), rfl, ht9⟩) (fun _ h => nomatch h) dX6_vatNumbered_37
      · refine x_aald (K := 4) (t0 := 6) (C := RX5) (n := 4) (f := refA ad 18 (nV σ)) (j := n) (v := .null) hx hb hK hX (show 0 < 1 from Nat.zero_lt_one) rfl rfl (vin_of (by decide) (by assumption) (by assumption)) (by exact refA_no z_3) dX6_vatNumbered_18 ?_
        refine lv_goto (tgt := 23) hx hb dX6_vatNumbered_19 (by decide) ?_
        refine lv_astore_nN (lv' := [(2, .null), (0, .ref (ad 0 0)), (1, .int n)]) hx hb dX6_vatNumbered_23 rfl hl (by decide) rfl (fun ls hl => ?_)
        refine lv_aload_nN hx hb dX6_vatNumbered_24 rfl (lv_at hl 0 rfl) ?_
        refine lv_ifnonnullN hx hb dX6_vatNumbered_25 ?_
        exact x_throw (k9 := 1) (ic := 271) hx hb hst hown hE ht hlocks (hl.1.trans hml.symm) (fun _ _ _ => trivial) (by decide) tk1 ti1 tw1 bad1 good1 (by decide) (eV_1 hI (by first | exact Or.inl (by assumption) | exact Or.inr (Or.inl (by assumption)) | exact Or.inr (Or.inr (by assumption)))) dX6_vatNumbered_28 dX6_vatNumbered_31 dX6_vatNumbered_32 dX6_vatNumbered_35 (Nat.le_of_ble_eq_true rfl) (Nat.le_of_ble_eq_true rfl) (Nat.le_of_ble_eq_true rfl) (Nat.le_of_ble_eq_true rfl) (Nat.le_of_ble_eq_true rfl) (Nat.le_of_ble_eq_true rfl)
theorem tw_inX6_dyedLotNumbered_3 : ∀ w ∈ (vx_at0 RX6 58 (en 3) exN).filter goodWord, w ∈ wsX6_dyedLotNumbered := by decide +kernel
set_option maxHeartbeats 4000000 in
set_option maxRecDepth 100000 in
theorem qX6_dyedLotNumbered (la : Launch) (hst : la.stackTraces = false) (g : EG) (lo : Nat) (ad : Nat → Nat → Nat) (σ : Sg) (u : Nat → Int64) (τ : Sg) (hI : INV σ) (n : Int32) : vx_Met la yX6_dyedLotNumbered wsX6_dyedLotNumbered ({ frames := 7, cells := 2, slots := 12, locals := 122 } : Room) (va_Pc [.ref (ad 0 0), .int n] (fun U => XR g ad σ u τ U.heap ∧ EV g lo U)) (QX (eDy σ n) (.returned (some (.ref (ad 16 (ti n)))))) (XX (eDy σ n)) 2 12 (fun _ => False) := by
  refine vx_ofW (cc := cX6_dyedLotNumbered) (maxL := 3) (ret := (some (.object "DyehouseLedger$Lot"))) (by decide) rfl ?_
  intro p e s m args below meth c s₁ B hml ht hv
  obtain ⟨rfl, hX, hE⟩ := hv
  have hK := hE.1
  have hx := B.exec
  have hb := B.bytes
  have hr := B.returns
  have hts := atoms_spec (ws := wsX6_dyedLotNumbered) B.pre
  have hown : s.vm.findClass RX6 = some m.cls := findClass_of_methodNamed B.named
  have hlocks := B.notSynchronized
  have hinX0 : ∀ w ∈ wsX00, w ∈ wsX6_dyedLotNumbered := by decide +kernel
  have lk147 := hts (.fieldLink RX6 147 "DyehouseLedger$Lot" "state" "C") (by decide +kernel)
  have ti3 := hts (.initialized "java/lang/IllegalStateException") (by decide +kernel)
  have tk3 := hts (.classLink RX6 56 "java/lang/IllegalStateException") (by decide +kernel)
  have tw3 : ∀ w ∈ (vx_at0 RX6 58 (en 3) exN).filter goodWord, w.before _ s = true := fun w h => hts w (tw_inX6_dyedLotNumbered_3 w h)
  have hl := lv_entry ([.ref (ad 0 0), .int n]) (n := 3) (Nat.le_of_ble_eq_true rfl)
  rw [lg_entry_eq]
  generalize (lg_sl ([.ref (ad 0 0), .int n]) ++ List.replicate (3 - (lg_sl ([.ref (ad 0 0), .int n])).length) Slot.unset).toArray = ls at hl ⊢
  have hl : lv_has ls 3 [(0, .ref (ad 0 0)), (1, .int n)] := hl
  by_cases kn9 : okL σ n
  · obtain ⟨i, hi, rfl⟩ := vp_in_of ((okL_in hI n).mp kn9) (Nat.lt_of_le_of_lt hI.l.1 (by decide))
    have hbi : nL σ ≤ _ := hI.l.1
    refine lv_aload_n hx hb dX6_dyedLotNumbered_0 rfl (lv_at hl 0 rfl) ?_
    refine lv_iload_n hx hb dX6_dyedLotNumbered_1 rfl (lv_at hl 1 rfl) ?_
    refine xc_v (n := 1) (As := [.int (nI i)]) (rest := []) (v := [.ref (ad 16 i)]) ⟨hx, hb, hml, hown, hts⟩ hE hX ht hlocks (fun q => absurd (show eL σ (nI i) = 0 from if_pos kn9) q) (qX6_lotNumbered la hst g lo ad σ u τ hI (nI i)) gX6_dyedLotNumbered_X6_lotNumbered rfl rfl rfl (by decide +kernel) ⟨Nat.le_of_ble_eq_true rfl, Nat.le_of_ble_eq_true rfl⟩ rfl hl.1 rfl (Nat.le_of_ble_eq_true rfl) dX6_dyedLotNumbered_2 ⟨Nat.le_of_ble_eq_true rfl, Nat.le_of_ble_eq_true rfl⟩ ⟨Nat.le_of_ble_eq_true rfl, Nat.le_of_ble_eq_true rfl⟩ (fun _ => congrArg (fun z => [Value.ref (ad 16 z)]) (ti_nI (by omega))) (fun h_1 => ?_)
    refine lv_astore_n (lv' := [(2, .ref (ad 16 i)), (0, .ref (ad 0 0)), (1, .int (nI i))]) hx hb dX6_dyedLotNumbered_5 rfl hl (by decide) rfl (fun ls hl => ?_)
    refine lv_aload_n hx hb dX6_dyedLotNumbered_6 rfl (lv_at hl 0 rfl) ?_
    refine x_get (K := 16) (i := i) (v := .int (σ 21 i)) hx hb hts hinX0 hown hK hX hi 4 rfl rfl (by decide) rfl lk147 rfl dX6_dyedLotNumbered_7 ?_
    refine lv_bipush (v := 100) hx hb dX6_dyedLotNumbered_10 (by decide) ?_
    refine lv_icmp_eq (tgt := 23) hx hb dX6_dyedLotNumbered_12 (by decide) (fun c_2 => ?_) (fun c_2 => ?_)
    · refine lv_aload_n hx hb dX6_dyedLotNumbered_23 rfl (lv_at hl 0 rfl) ?_
      refine vx_ret ?_
      refine W.widen (k := 2) (n := 12) (Nat.le_of_ble_eq_true rfl) (Nat.le_of_ble_eq_true rfl) ?_
      exact W.aret (v := .ref (ad 16 i)) hx hb hr (Or.inl ⟨_, rfl⟩) (Or.inr ⟨_, rfl⟩) (fun t ht9 hW => ⟨(by unfold eDy; rw [ti_nI (by omega), if_pos kn9]; exact if_pos (by assumption)), (congrArg (fun z => Outcome.returned (some (Value.ref (ad 16 z)))) (ti_nI (by omega)).symm), ht9⟩) (fun _ h => nomatch h) dX6_dyedLotNumbered_24
    · exact x_throw (k9 := 3) (ic := 58) hx hb hst hown hE ht hlocks (hl.1.trans hml.symm) (fun _ _ _ => trivial) (by decide) tk3 ti3 tw3 bad3 good3 (by decide) (by unfold eDy; rw [ti_nI (by omega), if_pos kn9]; exact if_neg (by assumption)) dX6_dyedLotNumbered_15 dX6_dyedLotNumbered_18 dX6_dyedLotNumbered_19 dX6_dyedLotNumbered_22 (Nat.le_of_ble_eq_true rfl) (Nat.le_of_ble_eq_true rfl) (Nat.le_of_ble_eq_true rfl) (Nat.le_of_ble_eq_true rfl) (Nat.le_of_ble_eq_true rfl) (Nat.le_of_ble_eq_true rfl)
  · refine lv_aload_n hx hb dX6_dyedLotNumbered_0 rfl (lv_at hl 0 rfl) ?_
    refine lv_iload_n hx hb dX6_dyedLotNumbered_1 rfl (lv_at hl 1 rfl) ?_
    refine xc_v (n := 1) (As := [.int n]) (rest := []) (v := [.ref (ad 16 (ti n))]) ⟨hx, hb, hml, hown, hts⟩ hE hX ht hlocks (fun _ => (show eDy σ n = 1 from if_neg kn9).trans (show eL σ n = 1 from if_neg kn9).symm) (qX6_lotNumbered la hst g lo ad σ u τ hI n) gX6_dyedLotNumbered_X6_lotNumbered rfl rfl rfl (by decide +kernel) ⟨Nat.le_of_ble_eq_true rfl, Nat.le_of_ble_eq_true rfl⟩ rfl hl.1 rfl (Nat.le_of_ble_eq_true rfl) dX6_dyedLotNumbered_2 ⟨Nat.le_of_ble_eq_true rfl, Nat.le_of_ble_eq_true rfl⟩ ⟨Nat.le_of_ble_eq_true rfl, Nat.le_of_ble_eq_true rfl⟩ (fun _ => rfl) (fun h_4 => ?_)
    exact absurd h_4 (by rw [show eL σ n = 1 from if_neg kn9]; decide)
theorem tw_inX6_shadedLotNumbered_3 : ∀ w ∈ (vx_at0 RX6 58 (en 3) exN).filter goodWord, w ∈ wsX6_shadedLotNumbered := by decide +kernel
set_option maxHeartbeats 4000000 in
set_option maxRecDepth 100000 in
theorem qX6_shadedLotNumbered (la : Launch) (hst : la.stackTraces = false) (g : EG) (lo : Nat) (ad : Nat → Nat → Nat) (σ : Sg) (u : Nat → Int64) (τ : Sg) (hI : INV σ) (n : Int32) : vx_Met la yX6_shadedLotNumbered wsX6_shadedLotNumbered ({ frames := 7, cells := 2, slots := 12, locals := 122 } : Room) (va_Pc [.ref (ad 0 0), .int n] (fun U => XR g ad σ u τ U.heap ∧ EV g lo U)) (QX (eSd σ n) (.returned (some (.ref (ad 16 (ti n)))))) (XX (eSd σ n)) 2 12 (fun _ => False) := by
  refine vx_ofW (cc := cX6_shadedLotNumbered) (maxL := 3) (ret := (some (.object "DyehouseLedger$Lot"))) (by decide) rfl ?_
  intro p e s m args below meth c s₁ B hml ht hv
  obtain ⟨rfl, hX, hE⟩ := hv
  have hK := hE.1
  have hx := B.exec
  have hb := B.bytes
  have hr := B.returns
  have hts := atoms_spec (ws := wsX6_shadedLotNumbered) B.pre
  have hown : s.vm.findClass RX6 = some m.cls := findClass_of_methodNamed B.named
  have hlocks := B.notSynchronized
  have hinX0 : ∀ w ∈ wsX00, w ∈ wsX6_shadedLotNumbered := by decide +kernel
  have lk147 := hts (.fieldLink RX6 147 "DyehouseLedger$Lot" "state" "C") (by decide +kernel)
  have ti3 := hts (.initialized "java/lang/IllegalStateException") (by decide +kernel)
  have tk3 := hts (.classLink RX6 56 "java/lang/IllegalStateException") (by decide +kernel)
  have tw3 : ∀ w ∈ (vx_at0 RX6 58 (en 3) exN).filter goodWord, w.before _ s = true := fun w h => hts w (tw_inX6_shadedLotNumbered_3 w h)
  have hl := lv_entry ([.ref (ad 0 0), .int n]) (n := 3) (Nat.le_of_ble_eq_true rfl)
  rw [lg_entry_eq]
  generalize (lg_sl ([.ref (ad 0 0), .int n]) ++ List.replicate (3 - (lg_sl ([.ref (ad 0 0), .int n])).length) Slot.unset).toArray = ls at hl ⊢
  have hl : lv_has ls 3 [(0, .ref (ad 0 0)), (1, .int n)] := hl
  by_cases kn9 : okL σ n
  · obtain ⟨i, hi, rfl⟩ := vp_in_of ((okL_in hI n).mp kn9) (Nat.lt_of_le_of_lt hI.l.1 (by decide))
    have hbi : nL σ ≤ _ := hI.l.1
    refine lv_aload_n hx hb dX6_shadedLotNumbered_0 rfl (lv_at hl 0 rfl) ?_
    refine lv_iload_n hx hb dX6_shadedLotNumbered_1 rfl (lv_at hl 1 rfl) ?_
    refine xc_v (n := 1) (As := [.int (nI i)]) (rest := []) (v := [.ref (ad 16 i)]) ⟨hx, hb, hml, hown, hts⟩ hE hX ht hlocks (fun q => absurd (show eL σ (nI i) = 0 from if_pos kn9) q) (qX6_lotNumbered la hst g lo ad σ u τ hI (nI i)) gX6_shadedLotNumbered_X6_lotNumbered rfl rfl rfl (by decide +kernel) ⟨Nat.le_of_ble_eq_true rfl, Nat.le_of_ble_eq_true rfl⟩ rfl hl.1 rfl (Nat.le_of_ble_eq_true rfl) dX6_shadedLotNumbered_2 ⟨Nat.le_of_ble_eq_true rfl, Nat.le_of_ble_eq_true rfl⟩ ⟨Nat.le_of_ble_eq_true rfl, Nat.le_of_ble_eq_true rfl⟩ (fun _ => congrArg (fun z => [Value.ref (ad 16 z)]) (ti_nI (by omega))) (fun h_1 => ?_)
    refine lv_astore_n (lv' := [(2, .ref (ad 16 i)), (0, .ref (ad 0 0)), (1, .int (nI i))]) hx hb dX6_shadedLotNumbered_5 rfl hl (by decide) rfl (fun ls hl => ?_)
    refine lv_aload_n hx hb dX6_shadedLotNumbered_6 rfl (lv_at hl 0 rfl) ?_
    refine x_get (K := 16) (i := i) (v := .int (σ 21 i)) hx hb hts hinX0 hown hK hX hi 4 rfl rfl (by decide) rfl lk147 rfl dX6_shadedLotNumbered_7 ?_
    refine lv_bipush (v := 119) hx hb dX6_shadedLotNumbered_10 (by decide) ?_
    refine lv_icmp_ne (tgt := 23) hx hb dX6_shadedLotNumbered_12 (by decide) (fun c_2 => ?_) (fun c_2 => ?_)
    · refine lv_aload_n hx hb dX6_shadedLotNumbered_23 rfl (lv_at hl 0 rfl) ?_
      refine vx_ret ?_
      refine W.widen (k := 2) (n := 12) (Nat.le_of_ble_eq_true rfl) (Nat.le_of_ble_eq_true rfl) ?_
      exact W.aret (v := .ref (ad 16 i)) hx hb hr (Or.inl ⟨_, rfl⟩) (Or.inr ⟨_, rfl⟩) (fun t ht9 hW => ⟨(by unfold eSd; rw [ti_nI (by omega), if_pos kn9]; exact if_neg (by assumption)), (congrArg (fun z => Outcome.returned (some (Value.ref (ad 16 z)))) (ti_nI (by omega)).symm), ht9⟩) (fun _ h => nomatch h) dX6_shadedLotNumbered_24
    · exact x_throw (k9 := 3) (ic := 58) hx hb hst hown hE ht hlocks (hl.1.trans hml.symm) (fun _ _ _ => trivial) (by decide) tk3 ti3 tw3 bad3 good3 (by decide) (by unfold eSd; rw [ti_nI (by omega), if_pos kn9]; exact if_pos (by assumption)) dX6_shadedLotNumbered_15 dX6_shadedLotNumbered_18 dX6_shadedLotNumbered_19 dX6_shadedLotNumbered_22 (Nat.le_of_ble_eq_true rfl) (Nat.le_of_ble_eq_true rfl) (Nat.le_of_ble_eq_true rfl) (Nat.le_of_ble_eq_true rfl) (Nat.le_of_ble_eq_true rfl) (Nat.le_of_ble_eq_true rfl)
  · refine lv_aload_n hx hb dX6_shadedLotNumbered_0 rfl (lv_at hl 0 rfl) ?_
    refine lv_iload_n hx hb dX6_shadedLotNumbered_1 rfl (lv_at hl 1 rfl) ?_
    refine xc_v (n := 1) (As := [.int n]) (rest := []) (v := [.ref (ad 16 (ti n))]) ⟨hx, hb, hml, hown, hts⟩ hE hX ht hlocks (fun _ => (show eSd σ n = 1 from if_neg kn9).trans (show eL σ n = 1 from if_neg kn9).symm) (qX6_lotNumbered la hst g lo ad σ u τ hI n) gX6_shadedLotNumbered_X6_lotNumbered rfl rfl rfl (by decide +kernel) ⟨Nat.le_of_ble_eq_true rfl, Nat.le_of_ble_eq_true rfl⟩ rfl hl.1 rfl (Nat.le_of_ble_eq_true rfl) dX6_shadedLotNumbered_2 ⟨Nat.le_of_ble_eq_true rfl, Nat.le_of_ble_eq_true rfl⟩ ⟨Nat.le_of_ble_eq_true rfl, Nat.le_of_ble_eq_true rfl⟩ (fun _ => rfl) (fun h_4 => ?_)
    exact absurd h_4 (by rw [show eL σ n = 1 from if_neg kn9]; decide)
