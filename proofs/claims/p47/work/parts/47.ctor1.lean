set_option maxHeartbeats 4000000 in
set_option maxRecDepth 100000 in
theorem qX4_init (la : Launch) (g : EG) (lo : Nat) (a : Nat) (hlo : lo ≤ a) (x0 x1 x2 : Int32) : Met la yX4_init wsX4_init ({ frames := 1, cells := 0, slots := 0, locals := 30 } : Room) (va_Pc [.ref a, .int x0, .int x1, .int x2] (fun U => va_at g.1 vwCl (a, .inr (6, [.int 0, .int 0, .int 0])) U.heap ∧ KK g U)) (QN (.returned none) (fun _ H => va_at g.1 vwCl (a, .inr (6, [.int x0, .int x1, .int x2])) H) 0 a) 0 0 (fun q => lo ≤ q) := by
  refine Met.ofW (cc := cX4_init) (maxL := 4) (ret := none) (by decide) rfl ?_
  intro p e s m args below meth c s₁ B hml hv
  obtain ⟨rfl, hat, hK⟩ := hv
  have hx := B.exec
  have hb := B.bytes
  have hr := B.returns
  have hts := atoms_spec (ws := wsX4_init) B.pre
  have hown : s.vm.findClass RX4 = some m.cls := findClass_of_methodNamed B.named
  have hlocks := B.notSynchronized
  have hname : meth.name = "<init>" := (name_of_methodNamed B.named B.method).1
  have hinX4 : ∀ w ∈ wsX40, w ∈ wsX4_init := by decide +kernel
  have cobj := hts (.code objectInit ⟨#[0xb1]⟩ 1 none) (by decide +kernel)
  have iobj := hts (.instanceMethod objectInit) (by decide +kernel)
  have lk13 := hts (.fieldLink RX4 13 "DyehouseLedger$Shade" "red" "I") (by decide +kernel)
  have lk16 := hts (.fieldLink RX4 16 "DyehouseLedger$Shade" "blue" "I") (by decide +kernel)
  have lk7 := hts (.fieldLink RX4 7 "DyehouseLedger$Shade" "light" "I") (by decide +kernel)
  have ml1 := hts (.methodLink RX4 1 objectInit) (by decide +kernel)
  have hl := lv_entry ([.ref a, .int x0, .int x1, .int x2]) (n := 4) (Nat.le_of_ble_eq_true rfl)
  rw [lg_entry_eq]
  generalize (lg_sl ([.ref a, .int x0, .int x1, .int x2]) ++ List.replicate (4 - (lg_sl ([.ref a, .int x0, .int x1, .int x2])).length) Slot.unset).toArray = ls at hl ⊢
  have hl : lv_has ls 4 [(0, .ref a), (1, .int x0), (2, .int x1), (3, .int x2)] := hl
  have hz : s.heap.size = s.heap.size + 0 := rfl
  have ha : a < s.heap.size := hat.lt
  have oq : ∀ q, q < s.heap.size → q ≠ a → s.heap[q]? = s.heap[q]? := fun _ _ _ => rfl
  have hlc : ∀ z ∈ ([] : List Loc), lo ≤ z.base := fun z h => nomatch h
  refine lv_aload_n hx hb dX4_init_0 rfl (lv_at hl 0 rfl) ?_
  refine W.objInit hx hb hown ml1 iobj cobj rfl (hl.1.trans hml.symm) rfl dX4_init_1 (Nat.le_of_ble_eq_true rfl) (Nat.le_of_ble_eq_true rfl) ?_
  refine lv_aload_n hx hb dX4_init_4 rfl (lv_at hl 0 rfl) ?_
  refine lv_iload_n hx hb dX4_init_5 rfl (lv_at hl 1 rfl) ?_
  refine sp_put (ref := RX4) (C := RX4) (T := TX4) (N := 3) (ci := 6) (ty := .int) (v := .int x0) hx hb hts hinX4 tyX4 tyX4_ok nmX4 hown hK hat rfl 0 (by decide) lk7 (fun _ h => h) rfl (by decide +kernel) rfl rfl (show 0 < 3 from by decide) dX4_init_6 (fun H1 j1 h1 h2 h3 => ?_)
  have hat : va_at g.1 vwCl (a, .inr (6, [.int x0, .int 0, .int 0])) H1 := h1
  have hz := h2.trans hz
  have oq := fun q q1 q2 => (h3 q q2).trans (oq q q1 q2)
  have hlc := locA (j := j1) hlc hlo
  refine lv_aload_n hx hb dX4_init_9 rfl (lv_at hl 0 rfl) ?_
  refine lv_iload_n hx hb dX4_init_10 rfl (lv_at hl 2 rfl) ?_
  refine sp_put (ref := RX4) (C := RX4) (T := TX4) (N := 3) (ci := 6) (ty := .int) (v := .int x1) hx hb hts hinX4 tyX4 tyX4_ok nmX4 hown hK hat rfl 1 (by decide) lk13 (fun _ h => h) rfl (by decide +kernel) rfl rfl (show 1 < 3 from by decide) dX4_init_11 (fun H1 j1 h1 h2 h3 => ?_)
  have hat : va_at g.1 vwCl (a, .inr (6, [.int x0, .int x1, .int 0])) H1 := h1
  have hz := h2.trans hz
  have oq := fun q q1 q2 => (h3 q q2).trans (oq q q1 q2)
  have hlc := locA (j := j1) hlc hlo
  refine lv_aload_n hx hb dX4_init_14 rfl (lv_at hl 0 rfl) ?_
  refine lv_iload_n hx hb dX4_init_15 rfl (lv_at hl 3 rfl) ?_
  refine sp_put (ref := RX4) (C := RX4) (T := TX4) (N := 3) (ci := 6) (ty := .int) (v := .int x2) hx hb hts hinX4 tyX4 tyX4_ok nmX4 hown hK hat rfl 2 (by decide) lk16 (fun _ h => h) rfl (by decide +kernel) rfl rfl (show 2 < 3 from by decide) dX4_init_16 (fun H1 j1 h1 h2 h3 => ?_)
  have hat : va_at g.1 vwCl (a, .inr (6, [.int x0, .int x1, .int x2])) H1 := h1
  have hz := h2.trans hz
  have oq := fun q q1 q2 => (h3 q q2).trans (oq q q1 q2)
  have hlc := locA (j := j1) hlc hlo
  exact W.vret hx hb hr (fun t ht9 hW => ⟨rfl, by rw [ht9]; exact hat, by rw [ht9]; exact hz, fun q q1 q2 => by rw [ht9]; exact oq q q1 q2⟩) hlc dX4_init_19
set_option maxHeartbeats 4000000 in
set_option maxRecDepth 100000 in
theorem qX5_init (la : Launch) (g : EG) (lo : Nat) (a : Nat) (hlo : lo ≤ a) (x0 x1 : Int32) : Met la yX5_init wsX5_init ({ frames := 1, cells := 0, slots := 0, locals := 30 } : Room) (va_Pc [.ref a, .int x0, .int x1] (fun U => va_at g.1 vwCl (a, .inr (7, [.int 0, .int 0, .int 0, .int 0, .int 0, .int 0])) U.heap ∧ KK g U)) (QN (.returned none) (fun _ H => va_at g.1 vwCl (a, .inr (7, [.int x0, .int x1, .int (-1), .int (-1), .int 0, .int 0])) H) 0 a) 0 0 (fun q => lo ≤ q) := by
  refine Met.ofW (cc := cX5_init) (maxL := 3) (ret := none) (by decide) rfl ?_
  intro p e s m args below meth c s₁ B hml hv
  obtain ⟨rfl, hat, hK⟩ := hv
  have hx := B.exec
  have hb := B.bytes
  have hr := B.returns
  have hts := atoms_spec (ws := wsX5_init) B.pre
  have hown : s.vm.findClass RX5 = some m.cls := findClass_of_methodNamed B.named
  have hlocks := B.notSynchronized
  have hname : meth.name = "<init>" := (name_of_methodNamed B.named B.method).1
  have hinX5 : ∀ w ∈ wsX50, w ∈ wsX5_init := by decide +kernel
  have cobj := hts (.code objectInit ⟨#[0xb1]⟩ 1 none) (by decide +kernel)
  have iobj := hts (.instanceMethod objectInit) (by decide +kernel)
  have lk15 := hts (.fieldLink RX5 15 "DyehouseLedger$Vat" "mostWeight" "I") (by decide +kernel)
  have lk18 := hts (.fieldLink RX5 18 "DyehouseLedger$Vat" "light" "I") (by decide +kernel)
  have lk21 := hts (.fieldLink RX5 21 "DyehouseLedger$Vat" "onlyCustomer" "I") (by decide +kernel)
  have lk9 := hts (.fieldLink RX5 9 "DyehouseLedger$Vat" "number" "I") (by decide +kernel)
  have ml3 := hts (.methodLink RX5 3 objectInit) (by decide +kernel)
  have hl := lv_entry ([.ref a, .int x0, .int x1]) (n := 3) (Nat.le_of_ble_eq_true rfl)
  rw [lg_entry_eq]
  generalize (lg_sl ([.ref a, .int x0, .int x1]) ++ List.replicate (3 - (lg_sl ([.ref a, .int x0, .int x1])).length) Slot.unset).toArray = ls at hl ⊢
  have hl : lv_has ls 3 [(0, .ref a), (1, .int x0), (2, .int x1)] := hl
  have hz : s.heap.size = s.heap.size + 0 := rfl
  have ha : a < s.heap.size := hat.lt
  have oq : ∀ q, q < s.heap.size → q ≠ a → s.heap[q]? = s.heap[q]? := fun _ _ _ => rfl
  have hlc : ∀ z ∈ ([] : List Loc), lo ≤ z.base := fun z h => nomatch h
  refine lv_aload_n hx hb dX5_init_0 rfl (lv_at hl 0 rfl) ?_
  refine W.objInit hx hb hown ml3 iobj cobj rfl (hl.1.trans hml.symm) rfl dX5_init_1 (Nat.le_of_ble_eq_true rfl) (Nat.le_of_ble_eq_true rfl) ?_
  refine lv_aload_n hx hb dX5_init_4 rfl (lv_at hl 0 rfl) ?_
  refine lv_iload_n hx hb dX5_init_5 rfl (lv_at hl 1 rfl) ?_
  refine sp_putF (ref := RX5) (C := RX5) (T := TX5) (N := 6) (ci := 7) (ty := .int) (v := .int x0) hx hb hts hinX5 tyX5 tyX5_ok nmX5 hown hK hat rfl 0 (by decide) lk9 (fun _ h => h) rfl hname rfl (by decide +kernel) rfl rfl (show 0 < 6 from by decide) dX5_init_6 (fun H1 j1 h1 h2 h3 => ?_)
  have hat : va_at g.1 vwCl (a, .inr (7, [.int x0, .int 0, .int 0, .int 0, .int 0, .int 0])) H1 := h1
  have hz := h2.trans hz
  have oq := fun q q1 q2 => (h3 q q2).trans (oq q q1 q2)
  have hlc := locA (j := j1) hlc hlo
  refine lv_aload_n hx hb dX5_init_9 rfl (lv_at hl 0 rfl) ?_
  refine lv_iload_n hx hb dX5_init_10 rfl (lv_at hl 2 rfl) ?_
  refine sp_putF (ref := RX5) (C := RX5) (T := TX5) (N := 6) (ci := 7) (ty := .int) (v := .int x1) hx hb hts hinX5 tyX5 tyX5_ok nmX5 hown hK hat rfl 1 (by decide) lk15 (fun _ h => h) rfl hname rfl (by decide +kernel) rfl rfl (show 1 < 6 from by decide) dX5_init_11 (fun H1 j1 h1 h2 h3 => ?_)
  have hat : va_at g.1 vwCl (a, .inr (7, [.int x0, .int x1, .int 0, .int 0, .int 0, .int 0])) H1 := h1
  have hz := h2.trans hz
  have oq := fun q q1 q2 => (h3 q q2).trans (oq q q1 q2)
  have hlc := locA (j := j1) hlc hlo
  refine lv_aload_n hx hb dX5_init_14 rfl (lv_at hl 0 rfl) ?_
  refine lv_iconst (v := (-1)) hx hb dX5_init_15 (by decide) ?_
  refine sp_put (ref := RX5) (C := RX5) (T := TX5) (N := 6) (ci := 7) (ty := .int) (v := .int (-1)) hx hb hts hinX5 tyX5 tyX5_ok nmX5 hown hK hat rfl 2 (by decide) lk18 (fun _ h => h) rfl (by decide +kernel) rfl rfl (show 2 < 6 from by decide) dX5_init_16 (fun H1 j1 h1 h2 h3 => ?_)
  have hat : va_at g.1 vwCl (a, .inr (7, [.int x0, .int x1, .int (-1), .int 0, .int 0, .int 0])) H1 := h1
  have hz := h2.trans hz
  have oq := fun q q1 q2 => (h3 q q2).trans (oq q q1 q2)
  have hlc := locA (j := j1) hlc hlo
  refine lv_aload_n hx hb dX5_init_19 rfl (lv_at hl 0 rfl) ?_
  refine lv_iconst (v := (-1)) hx hb dX5_init_20 (by decide) ?_
  refine sp_put (ref := RX5) (C := RX5) (T := TX5) (N := 6) (ci := 7) (ty := .int) (v := .int (-1)) hx hb hts hinX5 tyX5 tyX5_ok nmX5 hown hK hat rfl 3 (by decide) lk21 (fun _ h => h) rfl (by decide +kernel) rfl rfl (show 3 < 6 from by decide) dX5_init_21 (fun H1 j1 h1 h2 h3 => ?_)
  have hat : va_at g.1 vwCl (a, .inr (7, [.int x0, .int x1, .int (-1), .int (-1), .int 0, .int 0])) H1 := h1
  have hz := h2.trans hz
  have oq := fun q q1 q2 => (h3 q q2).trans (oq q q1 q2)
  have hlc := locA (j := j1) hlc hlo
  exact W.vret hx hb hr (fun t ht9 hW => ⟨rfl, by rw [ht9]; exact hat, by rw [ht9]; exact hz, fun q q1 q2 => by rw [ht9]; exact oq q q1 q2⟩) hlc dX5_init_24
set_option maxHeartbeats 4000000 in
set_option maxRecDepth 100000 in
theorem qX1_init (la : Launch) (g : EG) (lo : Nat) (a : Nat) (hlo : lo ≤ a) (x0 : Int32) (b : Nat) (x1 x2 x3 : Int32) : Met la yX1_init wsX1_init ({ frames := 1, cells := 0, slots := 0, locals := 30 } : Room) (va_Pc [.ref a, .int x0, .ref b, .int x1, .int x2, .int x3] (fun U => va_at g.1 vwCl (a, .inr (3, [.int 0, .null, .int 0, .int 0, .int 0])) U.heap ∧ KK g U)) (QN (.returned none) (fun _ H => va_at g.1 vwCl (a, .inr (3, [.int x0, .ref b, .int x1, .int x2, .int x3])) H) 0 a) 0 0 (fun q => lo ≤ q) := by
  refine Met.ofW (cc := cX1_init) (maxL := 6) (ret := none) (by decide) rfl ?_
  intro p e s m args below meth c s₁ B hml hv
  obtain ⟨rfl, hat, hK⟩ := hv
  have hx := B.exec
  have hb := B.bytes
  have hr := B.returns
  have hts := atoms_spec (ws := wsX1_init) B.pre
  have hown : s.vm.findClass RX1 = some m.cls := findClass_of_methodNamed B.named
  have hlocks := B.notSynchronized
  have hname : meth.name = "<init>" := (name_of_methodNamed B.named B.method).1
  have hinX1 : ∀ w ∈ wsX10, w ∈ wsX1_init := by decide +kernel
  have cobj := hts (.code objectInit ⟨#[0xb1]⟩ 1 none) (by decide +kernel)
  have iobj := hts (.instanceMethod objectInit) (by decide +kernel)
  have lk13 := hts (.fieldLink RX1 13 "DyehouseLedger$Order" "recipe" "LDyehouseLedger$Recipe;") (by decide +kernel)
  have lk17 := hts (.fieldLink RX1 17 "DyehouseLedger$Order" "bound" "I") (by decide +kernel)
  have lk20 := hts (.fieldLink RX1 20 "DyehouseLedger$Order" "day" "I") (by decide +kernel)
  have lk23 := hts (.fieldLink RX1 23 "DyehouseLedger$Order" "price" "I") (by decide +kernel)
  have lk7 := hts (.fieldLink RX1 7 "DyehouseLedger$Order" "customer" "I") (by decide +kernel)
  have ml1 := hts (.methodLink RX1 1 objectInit) (by decide +kernel)
  have hl := lv_entry ([.ref a, .int x0, .ref b, .int x1, .int x2, .int x3]) (n := 6) (Nat.le_of_ble_eq_true rfl)
  rw [lg_entry_eq]
  generalize (lg_sl ([.ref a, .int x0, .ref b, .int x1, .int x2, .int x3]) ++ List.replicate (6 - (lg_sl ([.ref a, .int x0, .ref b, .int x1, .int x2, .int x3])).length) Slot.unset).toArray = ls at hl ⊢
  have hl : lv_has ls 6 [(0, .ref a), (1, .int x0), (2, .ref b), (3, .int x1), (4, .int x2), (5, .int x3)] := hl
  have hz : s.heap.size = s.heap.size + 0 := rfl
  have ha : a < s.heap.size := hat.lt
  have oq : ∀ q, q < s.heap.size → q ≠ a → s.heap[q]? = s.heap[q]? := fun _ _ _ => rfl
  have hlc : ∀ z ∈ ([] : List Loc), lo ≤ z.base := fun z h => nomatch h
  refine lv_aload_n hx hb dX1_init_0 rfl (lv_at hl 0 rfl) ?_
  refine W.objInit hx hb hown ml1 iobj cobj rfl (hl.1.trans hml.symm) rfl dX1_init_1 (Nat.le_of_ble_eq_true rfl) (Nat.le_of_ble_eq_true rfl) ?_
  refine lv_aload_n hx hb dX1_init_4 rfl (lv_at hl 0 rfl) ?_
  refine lv_iload_n hx hb dX1_init_5 rfl (lv_at hl 1 rfl) ?_
  refine sp_putF (ref := RX1) (C := RX1) (T := TX1) (N := 5) (ci := 3) (ty := .int) (v := .int x0) hx hb hts hinX1 tyX1 tyX1_ok nmX1 hown hK hat rfl 0 (by decide) lk7 (fun _ h => h) rfl hname rfl (by decide +kernel) rfl rfl (show 0 < 5 from by decide) dX1_init_6 (fun H1 j1 h1 h2 h3 => ?_)
  have hat : va_at g.1 vwCl (a, .inr (3, [.int x0, .null, .int 0, .int 0, .int 0])) H1 := h1
  have hz := h2.trans hz
  have oq := fun q q1 q2 => (h3 q q2).trans (oq q q1 q2)
  have hlc := locA (j := j1) hlc hlo
  refine lv_aload_n hx hb dX1_init_9 rfl (lv_at hl 0 rfl) ?_
  refine lv_aload_n hx hb dX1_init_10 rfl (lv_at hl 2 rfl) ?_
  refine sp_putF (ref := RX1) (C := RX1) (T := TX1) (N := 5) (ci := 3) (ty := (.object "DyehouseLedger$Recipe")) (v := .ref b) hx hb hts hinX1 tyX1 tyX1_ok nmX1 hown hK hat rfl 1 (by decide) lk13 (fun _ h => h) rfl hname rfl (by decide +kernel) rfl rfl (show 1 < 5 from by decide) dX1_init_11 (fun H1 j1 h1 h2 h3 => ?_)
  have hat : va_at g.1 vwCl (a, .inr (3, [.int x0, .ref b, .int 0, .int 0, .int 0])) H1 := h1
  have hz := h2.trans hz
  have oq := fun q q1 q2 => (h3 q q2).trans (oq q q1 q2)
  have hlc := locA (j := j1) hlc hlo
  refine lv_aload_n hx hb dX1_init_14 rfl (lv_at hl 0 rfl) ?_
  refine lv_iload_n hx hb dX1_init_15 rfl (lv_at hl 3 rfl) ?_
  refine sp_putF (ref := RX1) (C := RX1) (T := TX1) (N := 5) (ci := 3) (ty := .int) (v := .int x1) hx hb hts hinX1 tyX1 tyX1_ok nmX1 hown hK hat rfl 2 (by decide) lk17 (fun _ h => h) rfl hname rfl (by decide +kernel) rfl rfl (show 2 < 5 from by decide) dX1_init_16 (fun H1 j1 h1 h2 h3 => ?_)
  have hat : va_at g.1 vwCl (a, .inr (3, [.int x0, .ref b, .int x1, .int 0, .int 0])) H1 := h1
  have hz := h2.trans hz
  have oq := fun q q1 q2 => (h3 q q2).trans (oq q q1 q2)
  have hlc := locA (j := j1) hlc hlo
  refine lv_aload_n hx hb dX1_init_19 rfl (lv_at hl 0 rfl) ?_
  refine lv_iload hx hb dX1_init_20 (lv_at hl 4 rfl) ?_
  refine sp_putF (ref := RX1) (C := RX1) (T := TX1) (N := 5) (ci := 3) (ty := .int) (v := .int x2) hx hb hts hinX1 tyX1 tyX1_ok nmX1 hown hK hat rfl 3 (by decide) lk20 (fun _ h => h) rfl hname rfl (by decide +kernel) rfl rfl (show 3 < 5 from by decide) dX1_init_22 (fun H1 j1 h1 h2 h3 => ?_)
  have hat : va_at g.1 vwCl (a, .inr (3, [.int x0, .ref b, .int x1, .int x2, .int 0])) H1 := h1
  have hz := h2.trans hz
  have oq := fun q q1 q2 => (h3 q q2).trans (oq q q1 q2)
  have hlc := locA (j := j1) hlc hlo
  refine lv_aload_n hx hb dX1_init_25 rfl (lv_at hl 0 rfl) ?_
  refine lv_iload hx hb dX1_init_26 (lv_at hl 5 rfl) ?_
  refine sp_putF (ref := RX1) (C := RX1) (T := TX1) (N := 5) (ci := 3) (ty := .int) (v := .int x3) hx hb hts hinX1 tyX1 tyX1_ok nmX1 hown hK hat rfl 4 (by decide) lk23 (fun _ h => h) rfl hname rfl (by decide +kernel) rfl rfl (show 4 < 5 from by decide) dX1_init_28 (fun H1 j1 h1 h2 h3 => ?_)
  have hat : va_at g.1 vwCl (a, .inr (3, [.int x0, .ref b, .int x1, .int x2, .int x3])) H1 := h1
  have hz := h2.trans hz
  have oq := fun q q1 q2 => (h3 q q2).trans (oq q q1 q2)
  have hlc := locA (j := j1) hlc hlo
  exact W.vret hx hb hr (fun t ht9 hW => ⟨rfl, by rw [ht9]; exact hat, by rw [ht9]; exact hz, fun q q1 q2 => by rw [ht9]; exact oq q q1 q2⟩) hlc dX1_init_31
set_option maxHeartbeats 4000000 in
set_option maxRecDepth 100000 in
theorem qX3_init (la : Launch) (g : EG) (lo : Nat) (a : Nat) (hlo : lo ≤ a) (b : Nat) : Met la yX3_init wsX3_init ({ frames := 1, cells := 1, slots := 3, locals := 30 } : Room) (va_Pc [.ref a, .ref b] (fun U => va_at g.1 vwCl (a, .inr (5, [.null, .null])) U.heap ∧ KK g U)) (QN (.returned none) (fun H0 H => va_at g.1 vwCl (a, .inr (5, [.ref b, .ref H0.size])) H ∧ va_at g.1 vwCl (H0.size, .inl (g.2 1, 3, .inl (fun _ => 0))) H) 1 a) 1 3 (fun q => lo ≤ q) := by
  refine Met.ofW (cc := cX3_init) (maxL := 2) (ret := none) (by decide) rfl ?_
  intro p e s m args below meth c s₁ B hml hv
  obtain ⟨rfl, hat, hK⟩ := hv
  have hx := B.exec
  have hb := B.bytes
  have hr := B.returns
  have hts := atoms_spec (ws := wsX3_init) B.pre
  have hown : s.vm.findClass RX3 = some m.cls := findClass_of_methodNamed B.named
  have hlocks := B.notSynchronized
  have hname : meth.name = "<init>" := (name_of_methodNamed B.named B.method).1
  have hinX3 : ∀ w ∈ wsX30, w ∈ wsX3_init := by decide +kernel
  have arr := hts (.arrayClass .int) (by decide +kernel)
  have cobj := hts (.code objectInit ⟨#[0xb1]⟩ 1 none) (by decide +kernel)
  have iobj := hts (.instanceMethod objectInit) (by decide +kernel)
  have lk15 := hts (.fieldLink RX3 15 "DyehouseLedger$Recipe" "grams" "[I") (by decide +kernel)
  have lk9 := hts (.fieldLink RX3 9 "DyehouseLedger$Recipe" "shade" "LDyehouseLedger$Shade;") (by decide +kernel)
  have ml3 := hts (.methodLink RX3 3 objectInit) (by decide +kernel)
  have hl := lv_entry ([.ref a, .ref b]) (n := 2) (Nat.le_of_ble_eq_true rfl)
  rw [lg_entry_eq]
  generalize (lg_sl ([.ref a, .ref b]) ++ List.replicate (2 - (lg_sl ([.ref a, .ref b])).length) Slot.unset).toArray = ls at hl ⊢
  have hl : lv_has ls 2 [(0, .ref a), (1, .ref b)] := hl
  have hz : s.heap.size = s.heap.size + 0 := rfl
  have ha : a < s.heap.size := hat.lt
  have oq : ∀ q, q < s.heap.size → q ≠ a → s.heap[q]? = s.heap[q]? := fun _ _ _ => rfl
  have hlc : ∀ z ∈ ([] : List Loc), lo ≤ z.base := fun z h => nomatch h
  refine lv_aload_n hx hb dX3_init_0 rfl (lv_at hl 0 rfl) ?_
  refine W.objInit hx hb hown ml3 iobj cobj rfl (hl.1.trans hml.symm) rfl dX3_init_1 (Nat.le_of_ble_eq_true rfl) (Nat.le_of_ble_eq_true rfl) ?_
  refine lv_aload_n hx hb dX3_init_4 rfl (lv_at hl 0 rfl) ?_
  refine lv_aload_n hx hb dX3_init_5 rfl (lv_at hl 1 rfl) ?_
  refine sp_putF (ref := RX3) (C := RX3) (T := TX3) (N := 2) (ci := 5) (ty := (.object "DyehouseLedger$Shade")) (v := .ref b) hx hb hts hinX3 tyX3 tyX3_ok nmX3 hown hK hat rfl 0 (by decide) lk9 (fun _ h => h) rfl hname rfl (by decide +kernel) rfl rfl (show 0 < 2 from by decide) dX3_init_6 (fun H1 j1 h1 h2 h3 => ?_)
  have hat : va_at g.1 vwCl (a, .inr (5, [.ref b, .null])) H1 := h1
  have hz := h2.trans hz
  have oq := fun q q1 q2 => (h3 q q2).trans (oq q q1 q2)
  have hlc := locA (j := j1) hlc hlo
  refine lv_aload_n hx hb dX3_init_9 rfl (lv_at hl 0 rfl) ?_
  refine lv_iconst (v := 3) hx hb dX3_init_10 (by decide) ?_
  refine sp_newaB (b0 := s.heap.size) hz hx hb arr hK (Nat.le_of_ble_eq_true rfl) (Nat.le_of_ble_eq_true rfl) dX3_init_11 (fun H1 hN hN2 hN3 => ?_)
  have hat := hat.kept (hN3 a ha)
  have hz := hN2
  have oq := fun q q1 q2 => (hN3 q q1).trans (oq q q1 q2)
  refine sp_putF (ref := RX3) (C := RX3) (T := TX3) (N := 2) (ci := 5) (ty := (.array .int)) (v := .ref s.heap.size) hx hb hts hinX3 tyX3 tyX3_ok nmX3 hown hK hat rfl 1 (by decide) lk15 (fun _ h => h) rfl hname rfl (by decide +kernel) rfl rfl (show 1 < 2 from by decide) dX3_init_13 (fun H1 j1 h1 h2 h3 => ?_)
  have hat : va_at g.1 vwCl (a, .inr (5, [.ref b, .ref s.heap.size])) H1 := h1
  have hz := h2.trans hz
  have hN := hN.kept (h3 _ (by omega))
  have oq := fun q q1 q2 => (h3 q q2).trans (oq q q1 q2)
  have hlc := locA (j := j1) hlc hlo
  exact W.vret hx hb hr (fun t ht9 hW => ⟨rfl, by rw [ht9]; exact ⟨hat, hN⟩, by rw [ht9]; exact hz, fun q q1 q2 => by rw [ht9]; exact oq q q1 q2⟩) hlc dX3_init_16
set_option maxHeartbeats 4000000 in
set_option maxRecDepth 100000 in
theorem qX0_init (la : Launch) (g : EG) (lo : Nat) (a : Nat) (hlo : lo ≤ a) (x0 : Int32) (b : Nat) (x1 : Int32) : Met la yX0_init wsX0_init ({ frames := 2, cells := 1, slots := 3, locals := 53 } : Room) (va_Pc [.ref a, .int x0, .ref b, .int x1] (fun U => va_at g.1 vwCl (a, .inr (2, [.int 0, .null, .int 0, .null, .int 0, .null, .int 0, .int 0, .null])) U.heap ∧ KK g U)) (QN (.returned none) (fun H0 H => va_at g.1 vwCl (a, .inr (2, [.int x0, .ref b, .int x1, .ref H0.size, .int 119, .null, .int 0, .int 0, .null])) H ∧ va_at g.1 vwCl (H0.size, .inr (6, [.int 0, .int 0, .int 0])) H) 1 a) 1 3 (fun q => lo ≤ q) := by
  refine Met.ofW (cc := cX0_init) (maxL := 4) (ret := none) (by decide) rfl ?_
  intro p e s m args below meth c s₁ B hml hv
  obtain ⟨rfl, hat, hK⟩ := hv
  have hx := B.exec
  have hb := B.bytes
  have hr := B.returns
  have hts := atoms_spec (ws := wsX0_init) B.pre
  have hown : s.vm.findClass RX0 = some m.cls := findClass_of_methodNamed B.named
  have hlocks := B.notSynchronized
  have hname : meth.name = "<init>" := (name_of_methodNamed B.named B.method).1
  have hinX0 : ∀ w ∈ wsX00, w ∈ wsX0_init := by decide +kernel
  have hinX4 : ∀ w ∈ wsX40, w ∈ wsX0_init := by decide +kernel
  have cl22 := hts (.classLink RX0 22 RX4) (by decide +kernel)
  have cobj := hts (.code objectInit ⟨#[0xb1]⟩ 1 none) (by decide +kernel)
  have ic4 := hts (.initialized RX4) (by decide +kernel)
  have in4 := hts (.instanceMethod yX4_init) (by decide +kernel)
  have iobj := hts (.instanceMethod objectInit) (by decide +kernel)
  have is4 := hts (.instantiable RX4 3) (by decide +kernel)
  have lk15 := hts (.fieldLink RX0 15 "DyehouseLedger$Lot" "order" "LDyehouseLedger$Order;") (by decide +kernel)
  have lk19 := hts (.fieldLink RX0 19 "DyehouseLedger$Lot" "weight" "I") (by decide +kernel)
  have lk27 := hts (.fieldLink RX0 27 "DyehouseLedger$Lot" "shade" "LDyehouseLedger$Shade;") (by decide +kernel)
  have lk31 := hts (.fieldLink RX0 31 "DyehouseLedger$Lot" "state" "C") (by decide +kernel)
  have lk9 := hts (.fieldLink RX0 9 "DyehouseLedger$Lot" "number" "I") (by decide +kernel)
  have ml24 := hts (.methodLink RX0 24 yX4_init) (by decide +kernel)
  have ml3 := hts (.methodLink RX0 3 objectInit) (by decide +kernel)
  have hl := lv_entry ([.ref a, .int x0, .ref b, .int x1]) (n := 4) (Nat.le_of_ble_eq_true rfl)
  rw [lg_entry_eq]
  generalize (lg_sl ([.ref a, .int x0, .ref b, .int x1]) ++ List.replicate (4 - (lg_sl ([.ref a, .int x0, .ref b, .int x1])).length) Slot.unset).toArray = ls at hl ⊢
  have hl : lv_has ls 4 [(0, .ref a), (1, .int x0), (2, .ref b), (3, .int x1)] := hl
  have hz : s.heap.size = s.heap.size + 0 := rfl
  have ha : a < s.heap.size := hat.lt
  have oq : ∀ q, q < s.heap.size → q ≠ a → s.heap[q]? = s.heap[q]? := fun _ _ _ => rfl
  have hlc : ∀ z ∈ ([] : List Loc), lo ≤ z.base := fun z h => nomatch h
  refine lv_aload_n hx hb dX0_init_0 rfl (lv_at hl 0 rfl) ?_
  refine W.objInit hx hb hown ml3 iobj cobj rfl (hl.1.trans hml.symm) rfl dX0_init_1 (Nat.le_of_ble_eq_true rfl) (Nat.le_of_ble_eq_true rfl) ?_
  refine lv_aload_n hx hb dX0_init_4 rfl (lv_at hl 0 rfl) ?_
  refine lv_iload_n hx hb dX0_init_5 rfl (lv_at hl 1 rfl) ?_
  refine sp_putF (ref := RX0) (C := RX0) (T := TX0) (N := 9) (ci := 2) (ty := .int) (v := .int x0) hx hb hts hinX0 tyX0 tyX0_ok nmX0 hown hK hat rfl 0 (by decide) lk9 (fun _ h => h) rfl hname rfl (by decide +kernel) rfl rfl (show 0 < 9 from by decide) dX0_init_6 (fun H1 j1 h1 h2 h3 => ?_)
  have hat : va_at g.1 vwCl (a, .inr (2, [.int x0, .null, .int 0, .null, .int 0, .null, .int 0, .int 0, .null])) H1 := h1
  have hz := h2.trans hz
  have oq := fun q q1 q2 => (h3 q q2).trans (oq q q1 q2)
  have hlc := locA (j := j1) hlc hlo
  refine lv_aload_n hx hb dX0_init_9 rfl (lv_at hl 0 rfl) ?_
  refine lv_aload_n hx hb dX0_init_10 rfl (lv_at hl 2 rfl) ?_
  refine sp_putF (ref := RX0) (C := RX0) (T := TX0) (N := 9) (ci := 2) (ty := (.object "DyehouseLedger$Order")) (v := .ref b) hx hb hts hinX0 tyX0 tyX0_ok nmX0 hown hK hat rfl 1 (by decide) lk15 (fun _ h => h) rfl hname rfl (by decide +kernel) rfl rfl (show 1 < 9 from by decide) dX0_init_11 (fun H1 j1 h1 h2 h3 => ?_)
  have hat : va_at g.1 vwCl (a, .inr (2, [.int x0, .ref b, .int 0, .null, .int 0, .null, .int 0, .int 0, .null])) H1 := h1
  have hz := h2.trans hz
  have oq := fun q q1 q2 => (h3 q q2).trans (oq q q1 q2)
  have hlc := locA (j := j1) hlc hlo
  refine lv_aload_n hx hb dX0_init_14 rfl (lv_at hl 0 rfl) ?_
  refine lv_iload_n hx hb dX0_init_15 rfl (lv_at hl 3 rfl) ?_
  refine sp_putF (ref := RX0) (C := RX0) (T := TX0) (N := 9) (ci := 2) (ty := .int) (v := .int x1) hx hb hts hinX0 tyX0 tyX0_ok nmX0 hown hK hat rfl 2 (by decide) lk19 (fun _ h => h) rfl hname rfl (by decide +kernel) rfl rfl (show 2 < 9 from by decide) dX0_init_16 (fun H1 j1 h1 h2 h3 => ?_)
  have hat : va_at g.1 vwCl (a, .inr (2, [.int x0, .ref b, .int x1, .null, .int 0, .null, .int 0, .int 0, .null])) H1 := h1
  have hz := h2.trans hz
  have oq := fun q q1 q2 => (h3 q q2).trans (oq q q1 q2)
  have hlc := locA (j := j1) hlc hlo
  refine lv_aload_n hx hb dX0_init_19 rfl (lv_at hl 0 rfl) ?_
  refine sp_newB (b0 := s.heap.size) hz (C := RX4) (T := TX4) (N := 3) (ci := 6) (fs := [.int 0, .int 0, .int 0]) hx hb hts hinX4 tyX4 tyX4_ok hown cl22 is4 ic4 hK rfl (by decide +kernel) (Nat.le_of_ble_eq_true rfl) (Nat.le_of_ble_eq_true rfl) dX0_init_20 (fun H1 hN hN2 hN3 => ?_)
  have hat := hat.kept (hN3 a ha)
  have hz := hN2
  have oq := fun q q1 q2 => (hN3 q q1).trans (oq q q1 q2)
  refine lv_dup hx hb dX0_init_23 rfl ?_
  refine lv_iconst (v := 0) hx hb dX0_init_24 (by decide) ?_
  refine lv_iconst (v := 0) hx hb dX0_init_25 (by decide) ?_
  refine lv_iconst (v := 0) hx hb dX0_init_26 (by decide) ?_
  refine ctor_call (n := 3) (rest := [.ref s.heap.size, .ref a]) (As := [.int 0, .int 0, .int 0]) ⟨hx, hb, hml, hown, hts⟩ (qX4_init la g lo s.heap.size (Nat.le_trans hlo (Nat.le_of_lt ha)) 0 0 0) (fun U hU hW => ⟨by rw [hU]; exact hN, va_K.moved hW.alike hK⟩) (fun u9 a9 g9 mk q => ⟨q.1, va_K.moved (u := u9) (U := u9.calling g9 mk a9) (Vm.Alike.refl u9.vm) q.2⟩) gX0_init_X4_init rfl rfl rfl ic4 ml24 in4 rfl (by decide +kernel) ⟨Nat.le_of_ble_eq_true rfl, Nat.le_of_ble_eq_true rfl⟩ rfl hl.1 rfl (Nat.le_of_ble_eq_true rfl) dX0_init_27 ⟨Nat.le_of_ble_eq_true rfl, Nat.le_of_ble_eq_true rfl⟩ hlc (fun H1 locs1 h1 h2 h3 hlc => ?_)
  have hat := hat.kept (h3 a (by rw [hz]; omega) (by omega))
  have oq := fun q (q1 : q < s.heap.size) (q2 : q ≠ a) => (h3 q (by rw [hz]; omega) (by omega)).trans (oq q q1 q2)
  have hN := h1
  have hz := h2.trans hz
  refine sp_putF (ref := RX0) (C := RX0) (T := TX0) (N := 9) (ci := 2) (ty := (.object "DyehouseLedger$Shade")) (v := .ref s.heap.size) hx hb hts hinX0 tyX0 tyX0_ok nmX0 hown hK hat rfl 3 (by decide) lk27 (fun _ h => h) rfl hname rfl (by decide +kernel) rfl rfl (show 3 < 9 from by decide) dX0_init_30 (fun H1 j1 h1 h2 h3 => ?_)
  have hat : va_at g.1 vwCl (a, .inr (2, [.int x0, .ref b, .int x1, .ref s.heap.size, .int 0, .null, .int 0, .int 0, .null])) H1 := h1
  have hz := h2.trans hz
  have hN := hN.kept (h3 _ (by omega))
  have oq := fun q q1 q2 => (h3 q q2).trans (oq q q1 q2)
  have hlc := locA (j := j1) hlc hlo
  refine lv_aload_n hx hb dX0_init_33 rfl (lv_at hl 0 rfl) ?_
  refine lv_bipush (v := 119) hx hb dX0_init_34 (by decide) ?_
  refine sp_put (ref := RX0) (C := RX0) (T := TX0) (N := 9) (ci := 2) (ty := .char) (v := .int 119) hx hb hts hinX0 tyX0 tyX0_ok nmX0 hown hK hat rfl 4 (by decide) lk31 (fun _ h => h) rfl (by decide +kernel) rfl rfl (show 4 < 9 from by decide) dX0_init_36 (fun H1 j1 h1 h2 h3 => ?_)
  have hat : va_at g.1 vwCl (a, .inr (2, [.int x0, .ref b, .int x1, .ref s.heap.size, .int 119, .null, .int 0, .int 0, .null])) H1 := h1
  have hz := h2.trans hz
  have hN := hN.kept (h3 _ (by omega))
  have oq := fun q q1 q2 => (h3 q q2).trans (oq q q1 q2)
  have hlc := locA (j := j1) hlc hlo
  exact W.vret hx hb hr (fun t ht9 hW => ⟨rfl, by rw [ht9]; exact ⟨hat, hN⟩, by rw [ht9]; exact hz, fun q q1 q2 => by rw [ht9]; exact oq q q1 q2⟩) hlc dX0_init_39
