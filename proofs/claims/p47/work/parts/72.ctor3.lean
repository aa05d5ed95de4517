set_option maxHeartbeats 4000000 in
set_option maxRecDepth 100000 in
theorem qX2_init (la : Launch) (g : EG) (lo : Nat) (a : Nat) (hlo : lo ≤ a) : Met la yX2_init wsX2_init ({ frames := 1, cells := 4, slots := 24, locals := 30 } : Room) (va_Pc [.ref a] (fun U => va_at g.1 vwCl (a, .inr (4, [.null, .null, .null, .null, .int 0, .int 0, .int 0])) U.heap ∧ KK g U)) (QN (.returned none) (fun H0 H => va_at g.1 vwCl (a, .inr (4, [.ref (H0.size + 0), .ref (H0.size + 1), .ref (H0.size + 2), .ref (H0.size + 3), .int 0, .int 0, .int 0])) H ∧ AR g (fun _ => .inl (g.2 1, 6, .inl (fun _ => 0))) H0.size 4 H) 4 a) 4 24 (fun q => lo ≤ q) := by
  refine Met.ofW (cc := cX2_init) (maxL := 1) (ret := none) (by decide) rfl ?_
  intro p e s m args below meth c s₁ B hml hv
  obtain ⟨rfl, hat, hK⟩ := hv
  have hx := B.exec
  have hb := B.bytes
  have hr := B.returns
  have hts := atoms_spec (ws := wsX2_init) B.pre
  have hown : s.vm.findClass RX2 = some m.cls := findClass_of_methodNamed B.named
  have hlocks := B.notSynchronized
  have hname : meth.name = "<init>" := (name_of_methodNamed B.named B.method).1
  have hinX2 : ∀ w ∈ wsX20, w ∈ wsX2_init := by decide +kernel
  have arrInt := hts (.arrayClass .int) (by decide +kernel)
  have cobj := hts (.code objectInit ⟨#[0xb1]⟩ 1 none) (by decide +kernel)
  have iobj := hts (.instanceMethod objectInit) (by decide +kernel)
  have lk15 := hts (.fieldLink RX2 15 "DyehouseLedger$Plan" "lights" "[I") (by decide +kernel)
  have lk18 := hts (.fieldLink RX2 18 "DyehouseLedger$Plan" "customers" "[I") (by decide +kernel)
  have lk21 := hts (.fieldLink RX2 21 "DyehouseLedger$Plan" "hours" "[I") (by decide +kernel)
  have lk9 := hts (.fieldLink RX2 9 "DyehouseLedger$Plan" "numbers" "[I") (by decide +kernel)
  have ml3 := hts (.methodLink RX2 3 objectInit) (by decide +kernel)
  have hl := lv_entry ([.ref a]) (n := 1) (Nat.le_of_ble_eq_true rfl)
  rw [lg_entry_eq]
  generalize (lg_sl ([.ref a]) ++ List.replicate (1 - (lg_sl ([.ref a])).length) Slot.unset).toArray = ls at hl ⊢
  have hl : lv_has ls 1 [(0, .ref a)] := hl
  have ha : a < s.heap.size := hat.lt
  have hC : CB g (fun _ => .inl (g.2 1, 6, .inl (fun _ => 0))) a lo 4 s.heap [.null, .null, .null, .null, .int 0, .int 0, .int 0] 0 0 s.heap [] := ⟨hat, AR.zero, rfl, fun _ _ _ => rfl, (fun _ h => nomatch h), ha, hlo, Nat.le_refl _⟩
  clear hat
  refine lv_aload_n hx hb dX2_init_0 rfl (lv_at hl 0 rfl) ?_
  refine W.objInit hx hb hown ml3 iobj cobj rfl (hl.1.trans hml.symm) rfl dX2_init_1 (Nat.le_of_ble_eq_true rfl) (Nat.le_of_ble_eq_true rfl) ?_
  refine lv_aload_n hx hb dX2_init_4 rfl (lv_at hl 0 rfl) ?_
  refine lv_bipush (v := 6) hx hb dX2_init_5 (by decide) ?_
  refine sp_newI (b0 := (s.heap.size + 0)) hC.2.2.1 hx hb arrInt hK 6 (by decide) (by decide) (by decide) (Nat.le_of_ble_eq_true rfl) (Nat.le_of_ble_eq_true rfl) dX2_init_7 (fun H1 hN hN2 hN3 => ?_)
  replace hC : CB g (fun _ => .inl (g.2 1, 6, .inl (fun _ => 0))) a lo 4 s.heap [.null, .null, .null, .null, .int 0, .int 0, .int 0] 1 1 H1 _ := hC.new hN hN2 hN3
  clear hN hN2 hN3
  refine sp_putF (ref := RX2) (C := RX2) (T := TX2) (N := 7) (ci := 4) (ty := (.array .int)) (v := .ref (s.heap.size + 0)) hx hb hts hinX2 tyX2 tyX2_ok nmX2 hown hK hC.1 rfl 0 (by decide) lk9 (fun _ h => h) rfl hname rfl (by decide +kernel) rfl rfl (show 0 < 7 from by decide) dX2_init_9 (fun H1 j1 h1 h2 h3 => ?_)
  replace hC : CB g (fun _ => .inl (g.2 1, 6, .inl (fun _ => 0))) a lo 4 s.heap [.ref (s.heap.size + 0), .null, .null, .null, .int 0, .int 0, .int 0] 1 1 H1 _ := hC.put (j := j1) h1 h2 h3
  clear h1 h2 h3
  refine lv_aload_n hx hb dX2_init_12 rfl (lv_at hl 0 rfl) ?_
  refine lv_bipush (v := 6) hx hb dX2_init_13 (by decide) ?_
  refine sp_newI (b0 := (s.heap.size + 1)) hC.2.2.1 hx hb arrInt hK 6 (by decide) (by decide) (by decide) (Nat.le_of_ble_eq_true rfl) (Nat.le_of_ble_eq_true rfl) dX2_init_15 (fun H1 hN hN2 hN3 => ?_)
  replace hC : CB g (fun _ => .inl (g.2 1, 6, .inl (fun _ => 0))) a lo 4 s.heap [.ref (s.heap.size + 0), .null, .null, .null, .int 0, .int 0, .int 0] 2 2 H1 _ := hC.new hN hN2 hN3
  clear hN hN2 hN3
  refine sp_putF (ref := RX2) (C := RX2) (T := TX2) (N := 7) (ci := 4) (ty := (.array .int)) (v := .ref (s.heap.size + 1)) hx hb hts hinX2 tyX2 tyX2_ok nmX2 hown hK hC.1 rfl 1 (by decide) lk15 (fun _ h => h) rfl hname rfl (by decide +kernel) rfl rfl (show 1 < 7 from by decide) dX2_init_17 (fun H1 j1 h1 h2 h3 => ?_)
  replace hC : CB g (fun _ => .inl (g.2 1, 6, .inl (fun _ => 0))) a lo 4 s.heap [.ref (s.heap.size + 0), .ref (s.heap.size + 1), .null, .null, .int 0, .int 0, .int 0] 2 2 H1 _ := hC.put (j := j1) h1 h2 h3
  clear h1 h2 h3
  refine lv_aload_n hx hb dX2_init_20 rfl (lv_at hl 0 rfl) ?_
  refine lv_bipush (v := 6) hx hb dX2_init_21 (by decide) ?_
  refine sp_newI (b0 := (s.heap.size + 2)) hC.2.2.1 hx hb arrInt hK 6 (by decide) (by decide) (by decide) (Nat.le_of_ble_eq_true rfl) (Nat.le_of_ble_eq_true rfl) dX2_init_23 (fun H1 hN hN2 hN3 => ?_)
  replace hC : CB g (fun _ => .inl (g.2 1, 6, .inl (fun _ => 0))) a lo 4 s.heap [.ref (s.heap.size + 0), .ref (s.heap.size + 1), .null, .null, .int 0, .int 0, .int 0] 3 3 H1 _ := hC.new hN hN2 hN3
  clear hN hN2 hN3
  refine sp_putF (ref := RX2) (C := RX2) (T := TX2) (N := 7) (ci := 4) (ty := (.array .int)) (v := .ref (s.heap.size + 2)) hx hb hts hinX2 tyX2 tyX2_ok nmX2 hown hK hC.1 rfl 2 (by decide) lk18 (fun _ h => h) rfl hname rfl (by decide +kernel) rfl rfl (show 2 < 7 from by decide) dX2_init_25 (fun H1 j1 h1 h2 h3 => ?_)
  replace hC : CB g (fun _ => .inl (g.2 1, 6, .inl (fun _ => 0))) a lo 4 s.heap [.ref (s.heap.size + 0), .ref (s.heap.size + 1), .ref (s.heap.size + 2), .null, .int 0, .int 0, .int 0] 3 3 H1 _ := hC.put (j := j1) h1 h2 h3
  clear h1 h2 h3
  refine lv_aload_n hx hb dX2_init_28 rfl (lv_at hl 0 rfl) ?_
  refine lv_bipush (v := 6) hx hb dX2_init_29 (by decide) ?_
  refine sp_newI (b0 := (s.heap.size + 3)) hC.2.2.1 hx hb arrInt hK 6 (by decide) (by decide) (by decide) (Nat.le_of_ble_eq_true rfl) (Nat.le_of_ble_eq_true rfl) dX2_init_31 (fun H1 hN hN2 hN3 => ?_)
  replace hC : CB g (fun _ => .inl (g.2 1, 6, .inl (fun _ => 0))) a lo 4 s.heap [.ref (s.heap.size + 0), .ref (s.heap.size + 1), .ref (s.heap.size + 2), .null, .int 0, .int 0, .int 0] 4 4 H1 _ := hC.new hN hN2 hN3
  clear hN hN2 hN3
  refine sp_putF (ref := RX2) (C := RX2) (T := TX2) (N := 7) (ci := 4) (ty := (.array .int)) (v := .ref (s.heap.size + 3)) hx hb hts hinX2 tyX2 tyX2_ok nmX2 hown hK hC.1 rfl 3 (by decide) lk21 (fun _ h => h) rfl hname rfl (by decide +kernel) rfl rfl (show 3 < 7 from by decide) dX2_init_33 (fun H1 j1 h1 h2 h3 => ?_)
  replace hC : CB g (fun _ => .inl (g.2 1, 6, .inl (fun _ => 0))) a lo 4 s.heap [.ref (s.heap.size + 0), .ref (s.heap.size + 1), .ref (s.heap.size + 2), .ref (s.heap.size + 3), .int 0, .int 0, .int 0] 4 4 H1 _ := hC.put (j := j1) h1 h2 h3
  clear h1 h2 h3
  exact W.vret hx hb hr (fun t ht9 hW => ⟨rfl, by rw [ht9]; exact ⟨hC.1, hC.2.1⟩, by rw [ht9]; exact hC.2.2.1, fun q q1 q2 => by rw [ht9]; exact hC.2.2.2.1 q q1 q2⟩) hC.2.2.2.2.1 dX2_init_36
set_option maxHeartbeats 4000000 in
set_option maxRecDepth 100000 in
theorem qX6_init (la : Launch) (g : EG) (lo : Nat) (a : Nat) (hlo : lo ≤ a) : Met la yX6_init wsX6_init ({ frames := 2, cells := 11, slots := 79, locals := 50 } : Room) (va_Pc [.ref a] (fun U => va_at g.1 vwCl (a, .inr (8, [.null, .null, .null, .null, .null, .null, .null, .int 0, .int 0, .int 0, .int 0])) U.heap ∧ KK g U ∧ AN U)) (QN (.returned none) (fun H0 H => ∃ ad, XR g ad σz uz σz H ∧ XA lo ad σz ∧ ad 0 0 = a ∧ ∀ K i, i < xcnt σz K → ad K i = a ∨ (H0.size ≤ ad K i ∧ ad K i < H0.size + 11)) 11 a) 11 79 (fun q => lo ≤ q) := by
  refine Met.ofW (cc := cX6_init) (maxL := 1) (ret := none) (by decide) rfl ?_
  intro p e s m args below meth c s₁ B hml hv
  obtain ⟨rfl, hat, hK, hAN⟩ := hv
  have hx := B.exec
  have hb := B.bytes
  have hr := B.returns
  have hts := atoms_spec (ws := wsX6_init) B.pre
  have hown : s.vm.findClass RX6 = some m.cls := findClass_of_methodNamed B.named
  have hlocks := B.notSynchronized
  have hname : meth.name = "<init>" := (name_of_methodNamed B.named B.method).1
  have hinX2 : ∀ w ∈ wsX20, w ∈ wsX6_init := by decide +kernel
  have hinX6 : ∀ w ∈ wsX60, w ∈ wsX6_init := by decide +kernel
  have arrInt := hts (.arrayClass .int) (by decide +kernel)
  have arrLong := hts (.arrayClass .long) (by decide +kernel)
  have cl15 := hts (.classLink RX6 15 RX1) (by decide +kernel)
  have cl21 := hts (.classLink RX6 21 RX0) (by decide +kernel)
  have cl27 := hts (.classLink RX6 27 RX5) (by decide +kernel)
  have cl41 := hts (.classLink RX6 41 RX2) (by decide +kernel)
  have cl9 := hts (.classLink RX6 9 RX3) (by decide +kernel)
  have cobj := hts (.code objectInit ⟨#[0xb1]⟩ 1 none) (by decide +kernel)
  have ic2 := hts (.initialized RX2) (by decide +kernel)
  have in2 := hts (.instanceMethod yX2_init) (by decide +kernel)
  have iobj := hts (.instanceMethod objectInit) (by decide +kernel)
  have is2 := hts (.instantiable RX2 7) (by decide +kernel)
  have lk11 := hts (.fieldLink RX6 11 "DyehouseLedger" "allRecipes" "[LDyehouseLedger$Recipe;") (by decide +kernel)
  have lk17 := hts (.fieldLink RX6 17 "DyehouseLedger" "allOrders" "[LDyehouseLedger$Order;") (by decide +kernel)
  have lk23 := hts (.fieldLink RX6 23 "DyehouseLedger" "allLots" "[LDyehouseLedger$Lot;") (by decide +kernel)
  have lk29 := hts (.fieldLink RX6 29 "DyehouseLedger" "allVats" "[LDyehouseLedger$Vat;") (by decide +kernel)
  have lk33 := hts (.fieldLink RX6 33 "DyehouseLedger" "gramsInStock" "[I") (by decide +kernel)
  have lk37 := hts (.fieldLink RX6 37 "DyehouseLedger" "gramsUsed" "[J") (by decide +kernel)
  have lk44 := hts (.fieldLink RX6 44 "DyehouseLedger" "planAtHand" "LDyehouseLedger$Plan;") (by decide +kernel)
  have ml1 := hts (.methodLink RX6 1 objectInit) (by decide +kernel)
  have ml43 := hts (.methodLink RX6 43 yX2_init) (by decide +kernel)
  have hl := lv_entry ([.ref a]) (n := 1) (Nat.le_of_ble_eq_true rfl)
  rw [lg_entry_eq]
  generalize (lg_sl ([.ref a]) ++ List.replicate (1 - (lg_sl ([.ref a])).length) Slot.unset).toArray = ls at hl ⊢
  have hl : lv_has ls 1 [(0, .ref a)] := hl
  have ha : a < s.heap.size := hat.lt
  have hC : CB g (cntC g) a lo 8 s.heap [.null, .null, .null, .null, .null, .null, .null, .int 0, .int 0, .int 0, .int 0] 0 0 s.heap [] := ⟨hat, AR.zero, rfl, fun _ _ _ => rfl, (fun _ h => nomatch h), ha, hlo, Nat.le_refl _⟩
  clear hat
  refine lv_aload_n hx hb dX6_init_0 rfl (lv_at hl 0 rfl) ?_
  refine W.objInit hx hb hown ml1 iobj cobj rfl (hl.1.trans hml.symm) rfl dX6_init_1 (Nat.le_of_ble_eq_true rfl) (Nat.le_of_ble_eq_true rfl) ?_
  refine lv_aload_n hx hb dX6_init_4 rfl (lv_at hl 0 rfl) ?_
  refine lv_bipush (v := 8) hx hb dX6_init_5 (by decide) ?_
  refine sp_newQ (b0 := (s.heap.size + 0)) hC.2.2.1 hx hb hown cl9 hAN.1 hK 5 rfl 8 (by decide) (by decide) (by decide) (Nat.le_of_ble_eq_true rfl) (Nat.le_of_ble_eq_true rfl) dX6_init_7 (fun H1 hN hN2 hN3 => ?_)
  replace hC : CB g (cntC g) a lo 8 s.heap [.null, .null, .null, .null, .null, .null, .null, .int 0, .int 0, .int 0, .int 0] 1 1 H1 _ := hC.new hN hN2 hN3
  clear hN hN2 hN3
  refine sp_putF (ref := RX6) (C := RX6) (T := TX6) (N := 11) (ci := 8) (ty := (.array (.object "DyehouseLedger$Recipe"))) (v := .ref (s.heap.size + 0)) hx hb hts hinX6 tyX6 tyX6_ok nmX6 hown hK hC.1 rfl 0 (by decide) lk11 (fun _ h => h) rfl hname rfl (by decide +kernel) rfl rfl (show 0 < 11 from by decide) dX6_init_10 (fun H1 j1 h1 h2 h3 => ?_)
  replace hC : CB g (cntC g) a lo 8 s.heap [.ref (s.heap.size + 0), .null, .null, .null, .null, .null, .null, .int 0, .int 0, .int 0, .int 0] 1 1 H1 _ := hC.put (j := j1) h1 h2 h3
  clear h1 h2 h3
  refine lv_aload_n hx hb dX6_init_13 rfl (lv_at hl 0 rfl) ?_
  refine lv_bipush (v := 6) hx hb dX6_init_14 (by decide) ?_
  refine sp_newQ (b0 := (s.heap.size + 1)) hC.2.2.1 hx hb hown cl15 hAN.2.1 hK 4 rfl 6 (by decide) (by decide) (by decide) (Nat.le_of_ble_eq_true rfl) (Nat.le_of_ble_eq_true rfl) dX6_init_16 (fun H1 hN hN2 hN3 => ?_)
  replace hC : CB g (cntC g) a lo 8 s.heap [.ref (s.heap.size + 0), .null, .null, .null, .null, .null, .null, .int 0, .int 0, .int 0, .int 0] 2 2 H1 _ := hC.new hN hN2 hN3
  clear hN hN2 hN3
  refine sp_putF (ref := RX6) (C := RX6) (T := TX6) (N := 11) (ci := 8) (ty := (.array (.object "DyehouseLedger$Order"))) (v := .ref (s.heap.size + 1)) hx hb hts hinX6 tyX6 tyX6_ok nmX6 hown hK hC.1 rfl 1 (by decide) lk17 (fun _ h => h) rfl hname rfl (by decide +kernel) rfl rfl (show 1 < 11 from by decide) dX6_init_19 (fun H1 j1 h1 h2 h3 => ?_)
  replace hC : CB g (cntC g) a lo 8 s.heap [.ref (s.heap.size + 0), .ref (s.heap.size + 1), .null, .null, .null, .null, .null, .int 0, .int 0, .int 0, .int 0] 2 2 H1 _ := hC.put (j := j1) h1 h2 h3
  clear h1 h2 h3
  refine lv_aload_n hx hb dX6_init_22 rfl (lv_at hl 0 rfl) ?_
  refine lv_bipush (v := 24) hx hb dX6_init_23 (by decide) ?_
  refine sp_newQ (b0 := (s.heap.size + 2)) hC.2.2.1 hx hb hown cl21 hAN.2.2.1 hK 3 rfl 24 (by decide) (by decide) (by decide) (Nat.le_of_ble_eq_true rfl) (Nat.le_of_ble_eq_true rfl) dX6_init_25 (fun H1 hN hN2 hN3 => ?_)
  replace hC : CB g (cntC g) a lo 8 s.heap [.ref (s.heap.size + 0), .ref (s.heap.size + 1), .null, .null, .null, .null, .null, .int 0, .int 0, .int 0, .int 0] 3 3 H1 _ := hC.new hN hN2 hN3
  clear hN hN2 hN3
  refine sp_putF (ref := RX6) (C := RX6) (T := TX6) (N := 11) (ci := 8) (ty := (.array (.object "DyehouseLedger$Lot"))) (v := .ref (s.heap.size + 2)) hx hb hts hinX6 tyX6 tyX6_ok nmX6 hown hK hC.1 rfl 2 (by decide) lk23 (fun _ h => h) rfl hname rfl (by decide +kernel) rfl rfl (show 2 < 11 from by decide) dX6_init_28 (fun H1 j1 h1 h2 h3 => ?_)
  replace hC : CB g (cntC g) a lo 8 s.heap [.ref (s.heap.size + 0), .ref (s.heap.size + 1), .ref (s.heap.size + 2), .null, .null, .null, .null, .int 0, .int 0, .int 0, .int 0] 3 3 H1 _ := hC.put (j := j1) h1 h2 h3
  clear h1 h2 h3
  refine lv_aload_n hx hb dX6_init_31 rfl (lv_at hl 0 rfl) ?_
  refine lv_iconst (v := 4) hx hb dX6_init_32 (by decide) ?_
  refine sp_newQ (b0 := (s.heap.size + 3)) hC.2.2.1 hx hb hown cl27 hAN.2.2.2 hK 6 rfl 4 (by decide) (by decide) (by decide) (Nat.le_of_ble_eq_true rfl) (Nat.le_of_ble_eq_true rfl) dX6_init_33 (fun H1 hN hN2 hN3 => ?_)
  replace hC : CB g (cntC g) a lo 8 s.heap [.ref (s.heap.size + 0), .ref (s.heap.size + 1), .ref (s.heap.size + 2), .null, .null, .null, .null, .int 0, .int 0, .int 0, .int 0] 4 4 H1 _ := hC.new hN hN2 hN3
  clear hN hN2 hN3
  refine sp_putF (ref := RX6) (C := RX6) (T := TX6) (N := 11) (ci := 8) (ty := (.array (.object "DyehouseLedger$Vat"))) (v := .ref (s.heap.size + 3)) hx hb hts hinX6 tyX6 tyX6_ok nmX6 hown hK hC.1 rfl 3 (by decide) lk29 (fun _ h => h) rfl hname rfl (by decide +kernel) rfl rfl (show 3 < 11 from by decide) dX6_init_36 (fun H1 j1 h1 h2 h3 => ?_)
  replace hC : CB g (cntC g) a lo 8 s.heap [.ref (s.heap.size + 0), .ref (s.heap.size + 1), .ref (s.heap.size + 2), .ref (s.heap.size + 3), .null, .null, .null, .int 0, .int 0, .int 0, .int 0] 4 4 H1 _ := hC.put (j := j1) h1 h2 h3
  clear h1 h2 h3
  refine lv_aload_n hx hb dX6_init_39 rfl (lv_at hl 0 rfl) ?_
  refine lv_iconst (v := 3) hx hb dX6_init_40 (by decide) ?_
  refine sp_newI (b0 := (s.heap.size + 4)) hC.2.2.1 hx hb arrInt hK 3 (by decide) (by decide) (by decide) (Nat.le_of_ble_eq_true rfl) (Nat.le_of_ble_eq_true rfl) dX6_init_41 (fun H1 hN hN2 hN3 => ?_)
  replace hC : CB g (cntC g) a lo 8 s.heap [.ref (s.heap.size + 0), .ref (s.heap.size + 1), .ref (s.heap.size + 2), .ref (s.heap.size + 3), .null, .null, .null, .int 0, .int 0, .int 0, .int 0] 5 5 H1 _ := hC.new hN hN2 hN3
  clear hN hN2 hN3
  refine sp_putF (ref := RX6) (C := RX6) (T := TX6) (N := 11) (ci := 8) (ty := (.array .int)) (v := .ref (s.heap.size + 4)) hx hb hts hinX6 tyX6 tyX6_ok nmX6 hown hK hC.1 rfl 4 (by decide) lk33 (fun _ h => h) rfl hname rfl (by decide +kernel) rfl rfl (show 4 < 11 from by decide) dX6_init_43 (fun H1 j1 h1 h2 h3 => ?_)
  replace hC : CB g (cntC g) a lo 8 s.heap [.ref (s.heap.size + 0), .ref (s.heap.size + 1), .ref (s.heap.size + 2), .ref (s.heap.size + 3), .ref (s.heap.size + 4), .null, .null, .int 0, .int 0, .int 0, .int 0] 5 5 H1 _ := hC.put (j := j1) h1 h2 h3
  clear h1 h2 h3
  refine lv_aload_n hx hb dX6_init_46 rfl (lv_at hl 0 rfl) ?_
  refine lv_iconst (v := 3) hx hb dX6_init_47 (by decide) ?_
  refine sp_newL (b0 := (s.heap.size + 5)) hC.2.2.1 hx hb arrLong hK 3 (by decide) (by decide) (by decide) (Nat.le_of_ble_eq_true rfl) (Nat.le_of_ble_eq_true rfl) dX6_init_48 (fun H1 hN hN2 hN3 => ?_)
  replace hC : CB g (cntC g) a lo 8 s.heap [.ref (s.heap.size + 0), .ref (s.heap.size + 1), .ref (s.heap.size + 2), .ref (s.heap.size + 3), .ref (s.heap.size + 4), .null, .null, .int 0, .int 0, .int 0, .int 0] 6 6 H1 _ := hC.new hN hN2 hN3
  clear hN hN2 hN3
  refine sp_putF (ref := RX6) (C := RX6) (T := TX6) (N := 11) (ci := 8) (ty := (.array .long)) (v := .ref (s.heap.size + 5)) hx hb hts hinX6 tyX6 tyX6_ok nmX6 hown hK hC.1 rfl 5 (by decide) lk37 (fun _ h => h) rfl hname rfl (by decide +kernel) rfl rfl (show 5 < 11 from by decide) dX6_init_50 (fun H1 j1 h1 h2 h3 => ?_)
  replace hC : CB g (cntC g) a lo 8 s.heap [.ref (s.heap.size + 0), .ref (s.heap.size + 1), .ref (s.heap.size + 2), .ref (s.heap.size + 3), .ref (s.heap.size + 4), .ref (s.heap.size + 5), .null, .int 0, .int 0, .int 0, .int 0] 6 6 H1 _ := hC.put (j := j1) h1 h2 h3
  clear h1 h2 h3
  refine lv_aload_n hx hb dX6_init_53 rfl (lv_at hl 0 rfl) ?_
  refine sp_newB (b0 := (s.heap.size + 6)) hC.2.2.1 (C := RX2) (T := TX2) (N := 7) (ci := 4) (fs := [.null, .null, .null, .null, .int 0, .int 0, .int 0]) hx hb hts hinX2 tyX2 tyX2_ok hown cl41 is2 ic2 hK rfl (by decide +kernel) (Nat.le_of_ble_eq_true rfl) (Nat.le_of_ble_eq_true rfl) dX6_init_54 (fun H1 hP hN2 hN3 => ?_)
  replace hC : CB g (cntC g) a lo 8 s.heap [.ref (s.heap.size + 0), .ref (s.heap.size + 1), .ref (s.heap.size + 2), .ref (s.heap.size + 3), .ref (s.heap.size + 4), .ref (s.heap.size + 5), .null, .int 0, .int 0, .int 0, .int 0] 6 7 H1 _ := hC.more hN2 (by decide) (fun q hq => hN3 q (by omega)) hC.2.2.2.2.1
  refine lv_dup hx hb dX6_init_57 rfl ?_
  have hz9 := hC.2.2.1
  refine ctor_call (n := 0) (rest := [.ref (s.heap.size + 6), .ref a]) (As := []) ⟨hx, hb, hml, hown, hts⟩ (qX2_init la g lo (s.heap.size + 6) (by omega)) (fun U hU hW => ⟨by rw [hU]; exact hP, va_K.moved hW.alike hK⟩) (fun u9 a9 g9 mk q => ⟨q.1, va_K.moved (u := u9) (U := u9.calling g9 mk a9) (Vm.Alike.refl u9.vm) q.2⟩) gX6_init_X2_init rfl rfl rfl ic2 ml43 in2 rfl (by decide +kernel) ⟨Nat.le_of_ble_eq_true rfl, Nat.le_of_ble_eq_true rfl⟩ rfl hl.1 rfl (Nat.le_of_ble_eq_true rfl) dX6_init_58 ⟨Nat.le_of_ble_eq_true rfl, Nat.le_of_ble_eq_true rfl⟩ hC.2.2.2.2.1 (fun H1 locs1 h1 h2 h3 hlc => ?_)
  rw [hz9] at h1
  have hP9 := h1
  replace hC : CB g (cntC g) a lo 8 s.heap [.ref (s.heap.size + 0), .ref (s.heap.size + 1), .ref (s.heap.size + 2), .ref (s.heap.size + 3), .ref (s.heap.size + 4), .ref (s.heap.size + 5), .null, .int 0, .int 0, .int 0, .int 0] 6 11 H1 _ := hC.more (h2.trans (congrArg (· + 4) hz9)) (by decide) (fun q hq => h3 q (by omega) (by omega)) hlc
  refine sp_putF (ref := RX6) (C := RX6) (T := TX6) (N := 11) (ci := 8) (ty := (.object "DyehouseLedger$Plan")) (v := .ref (s.heap.size + 6)) hx hb hts hinX6 tyX6 tyX6_ok nmX6 hown hK hC.1 rfl 6 (by decide) lk44 (fun _ h => h) rfl hname rfl (by decide +kernel) rfl rfl (show 6 < 11 from by decide) dX6_init_61 (fun H1 j1 h1 h2 h3 => ?_)
  have hQ := And.intro (hP9.1.kept (h3 _ (by omega))) (hP9.2.put (by omega) h3)
  replace hC : CB g (cntC g) a lo 8 s.heap [.ref (s.heap.size + 0), .ref (s.heap.size + 1), .ref (s.heap.size + 2), .ref (s.heap.size + 3), .ref (s.heap.size + 4), .ref (s.heap.size + 5), .ref (s.heap.size + 6), .int 0, .int 0, .int 0, .int 0] 6 11 H1 _ := hC.put (j := j1) h1 h2 h3
  clear h1 h2 h3
  exact W.vret hx hb hr (fun t ht9 hW => ⟨rfl, by rw [ht9]; exact (XR_init hlo ha hC.1 hC.2.1 hQ.1 hQ.2), by rw [ht9]; exact hC.2.2.1, fun q q1 q2 => by rw [ht9]; exact hC.2.2.2.1 q q1 q2⟩) hC.2.2.2.2.1 dX6_init_64
