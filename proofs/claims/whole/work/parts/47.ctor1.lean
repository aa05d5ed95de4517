set_option maxHeartbeats 4000000 in
set_option maxRecDepth 100000 in
theorem qX4_init (la : Launch) (g : EG) (lo : Nat) (a : Nat) (hlo : lo ≤ a) (x0 x1 x2 : Int32) : Met la yX4_init wsX4_init ({ frames := 1, cells := 0, slots := 0, locals := 30 } : Room) (va_Pc [.ref a, .int x0, .int x1, .int x2] (fun U => va_at g.1 vwCl (a, .inr (6, [.int 0, .int 0, .int 0])) U.heap ∧ KK g U)) (QN (.returned none) (fun _ H => va_at g.1 vwCl (a, .inr (6, [.int x0, .int x1, .int x2])) H) 0 a) 0 0 (fun q => lo ≤ q) := by
  refine Met.ofW (cc := cX4_init) (maxL := 4) (ret := none) (by decide) rfl ?_
  intro p e s m args below meth c s₁ B hml hv
  obtain ⟨rfl, hat, hK⟩ := hv
  have hx := B.exec
  have hb := B.bytes
  have hr := B.returns
  have hts := atoms_spec (ws := wsX4_init) B.pre
  have hown : s.vm.findClass RX4 = some m.cls := findClass_of_methodNamed B.named
  have hlocks := B.notSynchronized
  have hname : meth.name = "<init>" := (name_of_methodNamed B.named B.method).1
  have hinX4 : ∀ w ∈ wsX40, w ∈ wsX4_init := by decide +kernel
  have cobj := hts (.code objectInit ⟨#[0xb1]⟩ 1 none) (by decide +kernel)
  have iobj := hts (.instanceMethod objectInit) (by decide +kernel)
  have lk13 := hts (.fieldLink RX4 13 "DyehouseLedger$Shade" "red" "I") (by decide +kernel)
  have lk16 := hts (.fieldLink RX4 16 "DyehouseLedger$Shade" "blue" "I") (by decide +kernel)
  have lk7 := hts (.fieldLink RX4 7 "DyehouseLedger$Shade" "light" "I") (by decide +kernel)
  have ml1 := hts (.methodLink RX4 1 objectInit) (by decide +kernel)
  have hl := lv_entry ([.ref a, .int x0, .int x1, .int x2]) (n := 4) (Nat.le_of_ble_eq_true rfl)
  rw [lg_entry_eq]
  generalize (lg_sl ([.ref a, .int x0, .int x1, .int x2]) ++ List.replicate (4 - (lg_sl ([.ref a, .int x0, .int x1, .int x2])).length) Slot.unset).toArray = ls at hl ⊢
  have hl : lv_has ls 4 [(0, .ref a), (1, .int x0), (2, .int x1), (3, .int x2)] := hl
  have hz : s.heap.size = s.heap.size + 0 := rfl
  have oq : ∀ q, q < s.heap.size → q ≠ a → s.heap[q]? = s.heap[q]? := fun _ _ _ => rfl
  have hlc : ∀ z ∈ ([] : List Loc), lo ≤ z.base := fun z h => nomatch h
  refine lv_aload_n hx hb dX4_init_0 rfl (lv_at hl 0 rfl) ?_
  refine W.objInit hx hb hown ml1 iobj cobj rfl (hl.1.trans hml.symm) rfl dX4_init_1 (Nat.le_of_ble_eq_true rfl) (Nat.le_of_ble_eq_true rfl) ?_
  refine lv_aload_n hx hb dX4_init_4 rfl (lv_at hl 0 rfl) ?_
  refine lv_iload_n hx hb dX4_init_5 rfl (lv_at hl 1 rfl) ?_
  refine sp_put (ref := RX4) (C := RX4) (T := TX4) (N := 3) (ci := 6) (ty := .int) (v := .int x0) hx hb hts hinX4 tyX4 tyX4_ok nmX4 hown hK hat rfl 0 (by decide) lk7 (fun _ h => h) rfl (by decide +kernel) rfl rfl (show 0 < 3 from by decide) dX4_init_6 (fun H1 j1 h1 h2 h3 => ?_)
  have hat : va_at g.1 vwCl (a, .inr (6, [.int x0, .int 0, .int 0])) H1 := h1
  have hz := h2.trans hz
  have oq := fun q q1 q2 => (h3 q q2).trans (oq q q1 q2)
  have hlc := locA (j := j1) hlc hlo
  refine lv_aload_n hx hb dX4_init_9 rfl (lv_at hl 0 rfl) ?_
  refine lv_iload_n hx hb dX4_init_10 rfl (lv_at hl 2 rfl) ?_
  refine sp_put (ref := RX4) (C := RX4) (T := TX4) (N := 3) (ci := 6) (ty := .int) (v := .int x1) hx hb hts hinX4 tyX4 tyX4_ok nmX4 hown hK hat rfl 1 (by decide) lk13 (fun _ h => h) rfl (by decide +kernel) rfl rfl (show 1 < 3 from by decide) dX4_init_11 (fun H1 j1 h1 h2 h3 => ?_)
  have hat : va_at g.1 vwCl (a, .inr (6, [.int x0, .int x1, .int 0])) H1 := h1
  have hz := h2.trans hz
  have oq := fun q q1 q2 => (h3 q q2).trans (oq q q1 q2)
  have hlc := locA (j := j1) hlc hlo
  refine lv_aload_n hx hb dX4_init_14 rfl (lv_at hl 0 rfl) ?_
  refine lv_iload_n hx hb dX4_init_15 rfl (lv_at hl 3 rfl) ?_
  refine sp_put (ref := RX4) (C := RX4) (T := TX4) (N := 3) (ci := 6) (ty := .int) (v := .int x2) hx hb hts hinX4 tyX4 tyX4_ok nmX4 hown hK hat rfl 2 (by decide) lk16 (fun _ h => h) rfl (by decide +kernel) rfl rfl (show 2 < 3 from by decide) dX4_init_16 (fun H1 j1 h1 h2 h3 => ?_)
  have hat : va_at g.1 vwCl (a, .inr (6, [.int x0, .int x1, .int x2])) H1 := h1
  have hz := h2.trans hz
  have oq := fun q q1 q2 => (h3 q q2).trans (oq q q1 q2)
  have hlc := locA (j := j1) hlc hlo
  exact W.vret hx hb hr (fun t ht9 hW => ⟨rfl, by rw [ht9]; exact hat, by rw [ht9]; exact hz, fun q q1 q2 => by rw [ht9]; exact oq q q1 q2⟩) hlc dX4_init_19
set_option maxHeartbeats 4000000 in
set_option maxRecDepth 100000 in
theorem qX5_init (la : Launch) (g : EG) (lo : Nat) (a : Nat) (hlo : lo ≤ a) (x0 x1 : Int32) : Met la yX5_init wsX5_init ({ frames := 1, cells := 0, slots := 0, locals := 30 } : Room) (va_Pc [.ref a, .int x0, .int x1] (fun U => va_at g.1 vwCl (a, .inr (7, [.int 0, .int 0, .int 0, .int 0, .int 0, .int 0])) U.heap ∧ KK g U)) (QN (.returned none) (fun _ H => va_at g.1 vwCl (a, .inr (7, [.int x0, .int x1, .int (-1), .int (-1), .int 0, .int 0])) H) 0 a) 0 0 (fun q => lo ≤ q) := by
  refine Met.ofW (cc := cX5_init) (maxL := 3) (ret := none) (by decide) rfl ?_
  intro p e s m args below meth c s₁ B hml hv
  obtain ⟨rfl, hat, hK⟩ := hv
  have hx := B.exec
  have hb := B.bytes
  have hr := B.returns
  have hts := atoms_spec (ws := wsX5_init) B.pre
  have hown : s.vm.findClass RX5 = some m.cls := findClass_of_methodNamed B.named
  have hlocks := B.notSynchronized
  have hname : meth.name = "<init>" := (name_of_methodNamed B.named B.method).1
  have hinX5 : ∀ w ∈ wsX50, w ∈ wsX5_init := by decide +kernel
  have cobj := hts (.code objectInit ⟨#[0xb1]⟩ 1 none) (by decide +kernel)
  have iobj := hts (.instanceMethod objectInit) (by decide +kernel)
  have lk15 := hts (.fieldLink RX5 15 "DyehouseLedger$Vat" "mostWeight" "I") (by decide +kernel)
  have lk18 := hts (.fieldLink RX5 18 "DyehouseLedger$Vat" "light" "I") (by decide +kernel)
  have lk21 := hts (.fieldLink RX5 21 "DyehouseLedger$Vat" "onlyCustomer" "I") (by decide +kernel)
  have lk9 := hts (.fieldLink RX5 9 "DyehouseLedger$Vat" "number" "I") (by decide +kernel)
  have ml3 := hts (.methodLink RX5 3 objectInit) (by decide +kernel)
  have hl := lv_entry ([.ref a, .int x0, .int x1]) (n := 3) (Nat.le_of_ble_eq_true rfl)
  rw [lg_entry_eq]
  generalize (lg_sl ([.ref a, .int x0, .int x1]) ++ List.replicate (3 - (lg_sl ([.ref a, .int x0, .int x1])).length) Slot.unset).toArray = ls at hl ⊢
  have hl : lv_has ls 3 [(0, .ref a), (1, .int x0), (2, .int x1)] := hl
  have hz : s.heap.size = s.heap.size + 0 := rfl
  have oq : ∀ q, q < s.heap.size → q ≠ a → s.heap[q]? = s.heap[q]? := fun _ _ _ => rfl
  have hlc : ∀ z ∈ ([] : List Loc), lo ≤ z.base := fun z h => nomatch h
  refine lv_aload_n hx hb dX5_init_0 rfl (lv_at hl 0 rfl) ?_
  refine W.objInit hx hb hown ml3 iobj cobj rfl (hl.1.trans hml.symm) rfl dX5_init_1 (Nat.le_of_ble_eq_true rfl) (Nat.le_of_ble_eq_true rfl) ?_
  refine lv_aload_n hx hb dX5_init_4 rfl (lv_at hl 0 rfl) ?_
  refine lv_iload_n hx hb dX5_init_5 rfl (lv_at hl 1 rfl) ?_
  refine sp_putF (ref := RX5) (C := RX5) (T := TX5) (N := 6) (ci := 7) (ty := .int) (v := .int x0) hx hb hts hinX5 tyX5 tyX5_ok nmX5 hown hK hat rfl 0 (by decide) lk9 (fun _ h => h) rfl hname rfl (by decide +kernel) rfl rfl (show 0 < 6 from by decide) dX5_init_6 (fun H1 j1 h1 h2 h3 => ?_)
  have hat : va_at g.1 vwCl (a, .inr (7, [.int x0, .int 0, .int 0, .int 0, .int 0, .int 0])) H1 := h1
  have hz := h2.trans hz
  have oq := fun q q1 q2 => (h3 q q2).trans (oq q q1 q2)
  have hlc := locA (j := j1) hlc hlo
  refine lv_aload_n hx hb dX5_init_9 rfl (lv_at hl 0 rfl) ?_
  refine lv_iload_n hx hb dX5_init_10 rfl (lv_at hl 2 rfl) ?_
  refine sp_putF (ref := RX5) (C := RX5) (T := TX5) (N := 6) (ci := 7) (ty := .int) (v := .int x1) hx hb hts hinX5 tyX5 tyX5_ok nmX5 hown hK hat rfl 1 (by decide) lk15 (fun _ h => h) rfl hname rfl (by decide +kernel) rfl rfl (show 1 < 6 from by decide) dX5_init_11 (fun H1 j1 h1 h2 h3 => ?_)
  have hat : va_at g.1 vwCl (a, .inr (7, [.int x0, .int x1, .int 0, .int 0, .int 0, .int 0])) H1 := h1
  have hz := h2.trans hz
  have oq := fun q q1 q2 => (h3 q q2).trans (oq q q1 q2)
  have hlc := locA (j := j1) hlc hlo
  refine lv_aload_n hx hb dX5_init_14 rfl (lv_at hl 0 rfl) ?_
  refine lv_iconst (v := (-1)) hx hb dX5_init_15 (by decide) ?_
  refine sp_put (ref := RX5) (C := RX5) (T := TX5) (N := 6) (ci := 7) (ty := .int) (v := .int (-1)) hx hb hts hinX5 tyX5 tyX5_ok nmX5 hown hK hat rfl 2 (by decide) lk18 (fun _ h => h) rfl (by decide +kernel) rfl rfl (show 2 < 6 from by decide) dX5_init_16 (fun H1 j1 h1 h2 h3 => ?_)
  have hat : va_at g.1 vwCl (a, .inr (7, [.int x0, .int x1, .int (-1), .int 0, .int 0, .int 0])) H1 := h1
  have hz := h2.trans hz
  have oq := fun q q1 q2 => (h3 q q2).trans (oq q q1 q2)
  have hlc := locA (j := j1) hlc hlo
  refine lv_aload_n hx hb dX5_init_19 rfl (lv_at hl 0 rfl) ?_
  refine lv_iconst (v := (-1)) hx hb dX5_init_20 (by decide) ?_
  refine sp_put (ref := RX5) (C := RX5) (T := TX5) (N := 6) (ci := 7) (ty := .int) (v := .int (-1)) hx hb hts hinX5 tyX5 tyX5_ok nmX5 hown hK hat rfl 3 (by decide) lk21 (fun _ h => h) rfl (by decide +kernel) rfl rfl (show 3 < 6 from by decide) dX5_init_21 (fun H1 j1 h1 h2 h3 => ?_)
  have hat : va_at g.1 vwCl (a, .inr (7, [.int x0, .int x1, .int (-1), .int (-1), .int 0, .int 0])) H1 := h1
  have hz := h2.trans hz
  have oq := fun q q1 q2 => (h3 q q2).trans (oq q q1 q2)
  have hlc := locA (j := j1) hlc hlo
  exact W.vret hx hb hr (fun t ht9 hW => ⟨rfl, by rw [ht9]; exact hat, by rw [ht9]; exact hz, fun q q1 q2 => by rw [ht9]; exact oq q q1 q2⟩) hlc dX5_init_24
set_option maxHeartbeats 4000000 in
set_option maxRecDepth 100000 in
theorem qX1_init (la : Launch) (g : EG) (lo : Nat) (a : Nat) (hlo : lo ≤ a) (x0 : Int32) (b : Nat) (x1 x2 x3 : Int32) : Met la yX1_init wsX1_init ({ frames := 1, cells := 0, slots := 0, locals := 30 } : Room) (va_Pc [.ref a, .int x0, .ref b, .int x1, .int x2, .int x3] (fun U => va_at g.1 vwCl (a, .inr (3, [.int 0, .null, .int 0, .int 0, .int 0])) U.heap ∧ KK g U)) (QN (.returned none) (fun _ H => va_at g.1 vwCl (a, .inr (3, [.int x0, .ref b, .int x1, .int x2, .int x3])) H) 0 a) 0 0 (fun q => lo ≤ q) := by
  refine Met.ofW (cc := cX1_init) (maxL := 6) (ret := none) (by decide) rfl ?_
  intro p e s m args below meth c s₁ B hml hv
  obtain ⟨rfl, hat, hK⟩ := hv
  have hx := B.exec
  have hb := B.bytes
  have hr := B.returns
  have hts := atoms_spec (ws := wsX1_init) B.pre
  have hown : s.vm.findClass RX1 = some m.cls := findClass_of_methodNamed B.named
  have hlocks := B.notSynchronized
  have hname : meth.name = "<init>" := (name_of_methodNamed B.named B.method).1
  have hinX1 : ∀ w ∈ wsX10, w ∈ wsX1_init := by decide +kernel
  have cobj := hts (.code objectInit ⟨#[0xb1]⟩ 1 none) (by decide +kernel)
  have iobj := hts (.instanceMethod objectInit) (by decide +kernel)
  have lk13 := hts (.fieldLink RX1 13 "DyehouseLedger$Order" "recipe" "LDyehouseLedger$Recipe;") (by decide +kernel)
  have lk17 := hts (.fieldLink RX1 17 "DyehouseLedger$Order" "bound" "I") (by decide +kernel)
  have lk20 := hts (.fieldLink RX1 20 "DyehouseLedger$Order" "day" "I") (by decide +kernel)
  have lk23 := hts (.fieldLink RX1 23 "DyehouseLedger$Order" "price" "I") (by decide +kernel)
  have lk7 := hts (.fieldLink RX1 7 "DyehouseLedger$Order" "customer" "I") (by decide +kernel)
  have ml1 := hts (.methodLink RX1 1 objectInit) (by decide +kernel)
  have hl := lv_entry ([.ref a, .int x0, .ref b, .int x1, .int x2, .int x3]) (n := 6) (Nat.le_of_ble_eq_true rfl)
  rw [lg_entry_eq]
  generalize (lg_sl ([.ref a, .int x0, .ref b, .int x1, .int x2, .int x3]) ++ List.replicate (6 - (lg_sl ([.ref a, .int x0, .ref b, .int x1, .int x2, .int x3])).length) Slot.unset).toArray = ls at hl ⊢
  have hl : lv_has ls 6 [(0, .ref a), (1, .int x0), (2, .ref b), (3, .int x1), (4, .int x2), (5, .int x3)] := hl
  have hz : s.heap.size = s.heap.size + 0 := rfl
  have oq : ∀ q, q < s.heap.size → q ≠ a → s.heap[q]? = s.heap[q]? := fun _ _ _ => rfl
  have hlc : ∀ z ∈ ([] : List Loc), lo ≤ z.base := fun z h => nomatch h
  refine lv_aload_n hx hb dX1_init_0 rfl (lv_at hl 0 rfl) ?_
  refine W.objInit hx hb hown ml1 iobj cobj rfl (hl.1.trans hml.symm) rfl dX1_init_1 (Nat.le_of_ble_eq_true rfl) (Nat.le_of_ble_eq_true rfl) ?_
  refine lv_aload_n hx hb dX1_init_4 rfl (lv_at hl 0 rfl) ?_
  refine lv_iload_n hx hb dX1_init_5 rfl (lv_at hl 1 rfl) ?_
  refine sp_putF (ref := RX1) (C := RX1) (T := TX1) (N := 5) (ci := 3) (ty := .int) (v := .int x0) hx hb hts hinX1 tyX1 tyX1_ok nmX1 hown hK hat rfl 0 (by decide) lk7 (fun _ h => h) rfl hname rfl (by decide +kernel) rfl rfl (show 0 < 5 from by decide) dX1_init_6 (fun H1 j1 h1 h2 h3 => ?_)
  have hat : va_at g.1 vwCl (a, .inr (3, [.int x0, .null, .int 0, .int 0, .int 0])) H1 := h1
  have hz := h2.trans hz
  have oq := fun q q1 q2 => (h3 q q2).trans (oq q q1 q2)
  have hlc := locA (j := j1) hlc hlo
  refine lv_aload_n hx hb dX1_init_9 rfl (lv_at hl 0 rfl) ?_
  refine lv_aload_n hx hb dX1_init_10 rfl (lv_at hl 2 rfl) ?_
  refine sp_putF (ref := RX1) (C := RX1) (T := TX1) (N := 5) (ci := 3) (ty := (.object "DyehouseLedger$Recipe")) (v := .ref b) hx hb hts hinX1 tyX1 tyX1_ok nmX1 hown hK hat rfl 1 (by decide) lk13 (fun _ h => h) rfl hname rfl (by decide +kernel) rfl rfl (show 1 < 5 from by decide) dX1_init_11 (fun H1 j1 h1 h2 h3 => ?_)
  have hat : va_at g.1 vwCl (a, .inr (3, [.int x0, .ref b, .int 0, .int 0, .int 0])) H1 := h1
  have hz := h2.trans hz
  have oq := fun q q1 q2 => (h3 q q2).trans (oq q q1 q2)
  have hlc := locA (j := j1) hlc hlo
  refine lv_aload_n hx hb dX1_init_14 rfl (lv_at hl 0 rfl) ?_
  refine lv_iload_n hx hb dX1_init_15 rfl (lv_at hl 3 rfl) ?_
  refine sp_putF (ref := RX1) (C := RX1) (T := TX1) (N := 5) (ci := 3) (ty := .int) (v := .int x1) hx hb hts hinX1 tyX1 tyX1_ok nmX1 hown hK hat rfl 2 (by decide) lk17 (fun _ h => h) rfl hname rfl (by decide +kernel) rfl rfl (show 2 < 5 from by decide) dX1_init_16 (fun H1 j1 h1 h2 h3 => ?_)
  have hat : va_at g.1 vwCl (a, .inr (3, [.int x0, .ref b, .int x1, .int 0, .int 0])) H1 := h1
  have hz := h2.trans hz
  have oq := fun q q1 q2 => (h3 q q2).trans (oq q q1 q2)
  have hlc := locA (j := j1) hlc hlo
  refine lv_aload_n hx hb dX1_init_19 rfl (lv_at hl 0 rfl) ?_
  refine lv_iload hx hb dX1_init_20 (lv_at hl 4 rfl) ?_
  refine sp_putF (ref := RX1) (C := RX1) (T := TX1) (N := 5) (ci := 3) (ty := .int) (v := .int x2) hx hb hts hinX1 tyX1 tyX1_ok nmX1 hown hK hat rfl 3 (by decide) lk20 (fun _ h => h) rfl hname rfl (by decide +kernel) rfl rfl (show 3 < 5 from by decide) dX1_init_22 (fun H1 j1 h1 h2 h3 => ?_)
  have hat : va_at g.1 vwCl (a, .inr (3, [.int x0, .ref b, .int x1, .int x2, .int 0])) H1 := h1
  have hz := h2.trans hz
  have oq := fun q q1 q2 => (h3 q q2).trans (oq q q1 q2)
  have hlc := locA (j := j1) hlc hlo
  refine lv_aload_n hx hb dX1_init_25 rfl (lv_at hl 0 rfl) ?_
  refine lv_iload hx hb dX1_init_26 (lv_at hl 5 rfl) ?_
  refine sp_putF (ref := RX1) (C := RX1) (T := TX1) (N := 5) (ci := 3) (ty := .int) (v := .int x3) hx hb hts hinX1 tyX1 tyX1_ok nmX1 hown hK hat rfl 4 (by decide) lk23 (fun _ h => h) rfl hname rfl (by decide +kernel) rfl rfl (show 4 < 5 from by decide) dX1_init_28 (fun H1 j1 h1 h2 h3 => ?_)
  have hat : va_at g.1 vwCl (a, .inr (3, [.int x0, .ref b, .int x1, .int x2, .int x3])) H1 := h1
  have hz := h2.trans hz
  have oq := fun q q1 q2 => (h3 q q2).trans (oq q q1 q2)
  have hlc := locA (j := j1) hlc hlo
  exact W.vret hx hb hr (fun t ht9 hW => ⟨rfl, by rw [ht9]; exact hat, by rw [ht9]; exact hz, fun q q1 q2 => by rw [ht9]; exact oq q q1 q2⟩) hlc dX1_init_31
