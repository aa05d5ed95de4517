set_option maxHeartbeats 4000000 in
set_option maxRecDepth 100000 in
theorem qX7_init (la : Launch) (g : EG) (lo : Nat) (a : Nat) (hlo : lo ≤ a) : Met la yX7_init wsX7_init ({ frames := 1, cells := 24, slots := 351, locals := 30 } : Room) (va_Pc [.ref a] (fun U => va_at g.1 vwCl (a, .inr (9, [.int 0, .int 0, .int 0, .int 0, .int 0, .null, .null, .null, .null, .null, .null, .null, .null, .null, .null, .null, .null, .null, .null, .null, .null, .null, .null, .null, .null, .null, .null, .null, .null])) U.heap ∧ KK g U)) (QN (.returned none) (fun H0 H => ∃ ma, MR g ma σz uz H ∧ MA lo ma ∧ ma 0 = a ∧ ∀ k, mk9 k → ma k = a ∨ (H0.size ≤ ma k ∧ ma k < H0.size + 24)) 24 a) 24 351 (fun q => lo ≤ q) := by
  refine Met.ofW (cc := cX7_init) (maxL := 1) (ret := none) (by decide) rfl ?_
  intro p e s m args below meth c s₁ B hml hv
  obtain ⟨rfl, hat, hK⟩ := hv
  have hx := B.exec
  have hb := B.bytes
  have hr := B.returns
  have hts := atoms_spec (ws := wsX7_init) B.pre
  have hown : s.vm.findClass RX7 = some m.cls := findClass_of_methodNamed B.named
  have hlocks := B.notSynchronized
  have hname : meth.name = "<init>" := (name_of_methodNamed B.named B.method).1
  have hinX7 : ∀ w ∈ wsX70, w ∈ wsX7_init := by decide +kernel
  have arrChar := hts (.arrayClass .char) (by decide +kernel)
  have arrInt := hts (.arrayClass .int) (by decide +kernel)
  have arrLong := hts (.arrayClass .long) (by decide +kernel)
  have cobj := hts (.code objectInit ⟨#[0xb1]⟩ 1 none) (by decide +kernel)
  have iobj := hts (.instanceMethod objectInit) (by decide +kernel)
  have lk13 := hts (.fieldLink RX7 13 "DyehouseLedgerModel" "grams" "[I") (by decide +kernel)
  have lk16 := hts (.fieldLink RX7 16 "DyehouseLedgerModel" "stock" "[I") (by decide +kernel)
  have lk19 := hts (.fieldLink RX7 19 "DyehouseLedgerModel" "used" "[J") (by decide +kernel)
  have lk23 := hts (.fieldLink RX7 23 "DyehouseLedgerModel" "customer" "[I") (by decide +kernel)
  have lk26 := hts (.fieldLink RX7 26 "DyehouseLedgerModel" "recipe" "[I") (by decide +kernel)
  have lk29 := hts (.fieldLink RX7 29 "DyehouseLedgerModel" "bound" "[I") (by decide +kernel)
  have lk32 := hts (.fieldLink RX7 32 "DyehouseLedgerModel" "day" "[I") (by decide +kernel)
  have lk35 := hts (.fieldLink RX7 35 "DyehouseLedgerModel" "price" "[I") (by decide +kernel)
  have lk38 := hts (.fieldLink RX7 38 "DyehouseLedgerModel" "order" "[I") (by decide +kernel)
  have lk41 := hts (.fieldLink RX7 41 "DyehouseLedgerModel" "weight" "[I") (by decide +kernel)
  have lk44 := hts (.fieldLink RX7 44 "DyehouseLedgerModel" "out" "[I") (by decide +kernel)
  have lk47 := hts (.fieldLink RX7 47 "DyehouseLedgerModel" "vat" "[I") (by decide +kernel)
  have lk50 := hts (.fieldLink RX7 50 "DyehouseLedgerModel" "at" "[I") (by decide +kernel)
  have lk53 := hts (.fieldLink RX7 53 "DyehouseLedgerModel" "cleaned" "[I") (by decide +kernel)
  have lk56 := hts (.fieldLink RX7 56 "DyehouseLedgerModel" "plan" "[I") (by decide +kernel)
  have lk59 := hts (.fieldLink RX7 59 "DyehouseLedgerModel" "state" "[C") (by decide +kernel)
  have lk63 := hts (.fieldLink RX7 63 "DyehouseLedgerModel" "room" "[I") (by decide +kernel)
  have lk66 := hts (.fieldLink RX7 66 "DyehouseLedgerModel" "light" "[I") (by decide +kernel)
  have lk69 := hts (.fieldLink RX7 69 "DyehouseLedgerModel" "barred" "[I") (by decide +kernel)
  have lk7 := hts (.fieldLink RX7 7 "DyehouseLedgerModel" "shade" "[I") (by decide +kernel)
  have lk72 := hts (.fieldLink RX7 72 "DyehouseLedgerModel" "clock" "[I") (by decide +kernel)
  have lk75 := hts (.fieldLink RX7 75 "DyehouseLedgerModel" "cleanings" "[I") (by decide +kernel)
  have lk78 := hts (.fieldLink RX7 78 "DyehouseLedgerModel" "row" "[I") (by decide +kernel)
  have lk81 := hts (.fieldLink RX7 81 "DyehouseLedgerModel" "taken" "[I") (by decide +kernel)
  have ml1 := hts (.methodLink RX7 1 objectInit) (by decide +kernel)
  have hl := lv_entry ([.ref a]) (n := 1) (Nat.le_of_ble_eq_true rfl)
  rw [lg_entry_eq]
  generalize (lg_sl ([.ref a]) ++ List.replicate (1 - (lg_sl ([.ref a])).length) Slot.unset).toArray = ls at hl ⊢
  have hl : lv_has ls 1 [(0, .ref a)] := hl
  have ha : a < s.heap.size := hat.lt
  have hC : CB g (cntM g) a lo 9 s.heap [.int 0, .int 0, .int 0, .int 0, .int 0, .null, .null, .null, .null, .null, .null, .null, .null, .null, .null, .null, .null, .null, .null, .null, .null, .null, .null, .null, .null, .null, .null, .null, .null] 0 0 s.heap [] := ⟨hat, AR.zero, rfl, fun _ _ _ => rfl, (fun _ h => nomatch h), ha, hlo, Nat.le_refl _⟩
  clear hat
  refine lv_aload_n hx hb dX7_init_0 rfl (lv_at hl 0 rfl) ?_
  refine W.objInit hx hb hown ml1 iobj cobj rfl (hl.1.trans hml.symm) rfl dX7_init_1 (Nat.le_of_ble_eq_true rfl) (Nat.le_of_ble_eq_true rfl) ?_
  refine lv_aload_n hx hb dX7_init_4 rfl (lv_at hl 0 rfl) ?_
  refine lv_bipush (v := 24) hx hb dX7_init_5 (by decide) ?_
  refine sp_newI (b0 := (s.heap.size + 0)) hC.2.2.1 hx hb arrInt hK 24 (by decide) (by decide) (by decide) (Nat.le_of_ble_eq_true rfl) (Nat.le_of_ble_eq_true rfl) dX7_init_7 (fun H1 hN hN2 hN3 => ?_)
  replace hC : CB g (cntM g) a lo 9 s.heap [.int 0, .int 0, .int 0, .int 0, .int 0, .null, .null, .null, .null, .null, .null, .null, .null, .null, .null, .null, .null, .null, .null, .null, .null, .null, .null, .null, .null, .null, .null, .null, .null] 1 1 H1 _ := hC.new hN hN2 hN3
  clear hN hN2 hN3
  refine sp_putF (ref := RX7) (C := RX7) (T := TX7) (N := 29) (ci := 9) (ty := (.array .int)) (v := .ref (s.heap.size + 0)) hx hb hts hinX7 tyX7 tyX7_ok nmX7 hown hK hC.1 rfl 5 (by decide) lk7 (fun _ h => h) rfl hname rfl (by decide +kernel) rfl rfl (show 5 < 29 from by decide) dX7_init_9 (fun H1 j1 h1 h2 h3 => ?_)
  replace hC : CB g (cntM g) a lo 9 s.heap [.int 0, .int 0, .int 0, .int 0, .int 0, .ref (s.heap.size + 0), .null, .null, .null, .null, .null, .null, .null, .null, .null, .null, .null, .null, .null, .null, .null, .null, .null, .null, .null, .null, .null, .null, .null] 1 1 H1 _ := hC.put (j := j1) h1 h2 h3
  clear h1 h2 h3
  refine lv_aload_n hx hb dX7_init_12 rfl (lv_at hl 0 rfl) ?_
  refine lv_bipush (v := 24) hx hb dX7_init_13 (by decide) ?_
  refine sp_newI (b0 := (s.heap.size + 1)) hC.2.2.1 hx hb arrInt hK 24 (by decide) (by decide) (by decide) (Nat.le_of_ble_eq_true rfl) (Nat.le_of_ble_eq_true rfl) dX7_init_15 (fun H1 hN hN2 hN3 => ?_)
  replace hC : CB g (cntM g) a lo 9 s.heap [.int 0, .int 0, .int 0, .int 0, .int 0, .ref (s.heap.size + 0), .null, .null, .null, .null, .null, .null, .null, .null, .null, .null, .null, .null, .null, .null, .null, .null, .null, .null, .null, .null, .null, .null, .null] 2 2 H1 _ := hC.new hN hN2 hN3
  clear hN hN2 hN3
  refine sp_putF (ref := RX7) (C := RX7) (T := TX7) (N := 29) (ci := 9) (ty := (.array .int)) (v := .ref (s.heap.size + 1)) hx hb hts hinX7 tyX7 tyX7_ok nmX7 hown hK hC.1 rfl 6 (by decide) lk13 (fun _ h => h) rfl hname rfl (by decide +kernel) rfl rfl (show 6 < 29 from by decide) dX7_init_17 (fun H1 j1 h1 h2 h3 => ?_)
  replace hC : CB g (cntM g) a lo 9 s.heap [.int 0, .int 0, .int 0, .int 0, .int 0, .ref (s.heap.size + 0), .ref (s.heap.size + 1), .null, .null, .null, .null, .null, .null, .null, .null, .null, .null, .null, .null, .null, .null, .null, .null, .null, .null, .null, .null, .null, .null] 2 2 H1 _ := hC.put (j := j1) h1 h2 h3
  clear h1 h2 h3
  refine lv_aload_n hx hb dX7_init_20 rfl (lv_at hl 0 rfl) ?_
  refine lv_iconst (v := 3) hx hb dX7_init_21 (by decide) ?_
  refine sp_newI (b0 := (s.heap.size + 2)) hC.2.2.1 hx hb arrInt hK 3 (by decide) (by decide) (by decide) (Nat.le_of_ble_eq_true rfl) (Nat.le_of_ble_eq_true rfl) dX7_init_22 (fun H1 hN hN2 hN3 => ?_)
  replace hC : CB g (cntM g) a lo 9 s.heap [.int 0, .int 0, .int 0, .int 0, .int 0, .ref (s.heap.size + 0), .ref (s.heap.size + 1), .null, .null, .null, .null, .null, .null, .null, .null, .null, .null, .null, .null, .null, .null, .null, .null, .null, .null, .null, .null, .null, .null] 3 3 H1 _ := hC.new hN hN2 hN3
  clear hN hN2 hN3
  refine sp_putF (ref := RX7) (C := RX7) (T := TX7) (N := 29) (ci := 9) (ty := (.array .int)) (v := .ref (s.heap.size + 2)) hx hb hts hinX7 tyX7 tyX7_ok nmX7 hown hK hC.1 rfl 7 (by decide) lk16 (fun _ h => h) rfl hname rfl (by decide +kernel) rfl rfl (show 7 < 29 from by decide) dX7_init_24 (fun H1 j1 h1 h2 h3 => ?_)
  replace hC : CB g (cntM g) a lo 9 s.heap [.int 0, .int 0, .int 0, .int 0, .int 0, .ref (s.heap.size + 0), .ref (s.heap.size + 1), .ref (s.heap.size + 2), .null, .null, .null, .null, .null, .null, .null, .null, .null, .null, .null, .null, .null, .null, .null, .null, .null, .null, .null, .null, .null] 3 3 H1 _ := hC.put (j := j1) h1 h2 h3
  clear h1 h2 h3
  refine lv_aload_n hx hb dX7_init_27 rfl (lv_at hl 0 rfl) ?_
  refine lv_iconst (v := 3) hx hb dX7_init_28 (by decide) ?_
  refine sp_newL (b0 := (s.heap.size + 3)) hC.2.2.1 hx hb arrLong hK 3 (by decide) (by decide) (by decide) (Nat.le_of_ble_eq_true rfl) (Nat.le_of_ble_eq_true rfl) dX7_init_29 (fun H1 hN hN2 hN3 => ?_)
  replace hC : CB g (cntM g) a lo 9 s.heap [.int 0, .int 0, .int 0, .int 0, .int 0, .ref (s.heap.size + 0), .ref (s.heap.size + 1), .ref (s.heap.size + 2), .null, .null, .null, .null, .null, .null, .null, .null, .null, .null, .null, .null, .null, .null, .null, .null, .null, .null, .null, .null, .null] 4 4 H1 _ := hC.new hN hN2 hN3
  clear hN hN2 hN3
  refine sp_putF (ref := RX7) (C := RX7) (T := TX7) (N := 29) (ci := 9) (ty := (.array .long)) (v := .ref (s.heap.size + 3)) hx hb hts hinX7 tyX7 tyX7_ok nmX7 hown hK hC.1 rfl 8 (by decide) lk19 (fun _ h => h) rfl hname rfl (by decide +kernel) rfl rfl (show 8 < 29 from by decide) dX7_init_31 (fun H1 j1 h1 h2 h3 => ?_)
  replace hC : CB g (cntM g) a lo 9 s.heap [.int 0, .int 0, .int 0, .int 0, .int 0, .ref (s.heap.size + 0), .ref (s.heap.size + 1), .ref (s.heap.size + 2), .ref (s.heap.size + 3), .null, .null, .null, .null, .null, .null, .null, .null, .null, .null, .null, .null, .null, .null, .null, .null, .null, .null, .null, .null] 4 4 H1 _ := hC.put (j := j1) h1 h2 h3
  clear h1 h2 h3
  refine lv_aload_n hx hb dX7_init_34 rfl (lv_at hl 0 rfl) ?_
  refine lv_bipush (v := 6) hx hb dX7_init_35 (by decide) ?_
  refine sp_newI (b0 := (s.heap.size + 4)) hC.2.2.1 hx hb arrInt hK 6 (by decide) (by decide) (by decide) (Nat.le_of_ble_eq_true rfl) (Nat.le_of_ble_eq_true rfl) dX7_init_37 (fun H1 hN hN2 hN3 => ?_)
  replace hC : CB g (cntM g) a lo 9 s.heap [.int 0, .int 0, .int 0, .int 0, .int 0, .ref (s.heap.size + 0), .ref (s.heap.size + 1), .ref (s.heap.size + 2), .ref (s.heap.size + 3), .null, .null, .null, .null, .null, .null, .null, .null, .null, .null, .null, .null, .null, .null, .null, .null, .null, .null, .null, .null] 5 5 H1 _ := hC.new hN hN2 hN3
  clear hN hN2 hN3
  refine sp_putF (ref := RX7) (C := RX7) (T := TX7) (N := 29) (ci := 9) (ty := (.array .int)) (v := .ref (s.heap.size + 4)) hx hb hts hinX7 tyX7 tyX7_ok nmX7 hown hK hC.1 rfl 9 (by decide) lk23 (fun _ h => h) rfl hname rfl (by decide +kernel) rfl rfl (show 9 < 29 from by decide) dX7_init_39 (fun H1 j1 h1 h2 h3 => ?_)
  replace hC : CB g (cntM g) a lo 9 s.heap [.int 0, .int 0, .int 0, .int 0, .int 0, .ref (s.heap.size + 0), .ref (s.heap.size + 1), .ref (s.heap.size + 2), .ref (s.heap.size + 3), .ref (s.heap.size + 4), .null, .null, .null, .null, .null, .null, .null, .null, .null, .null, .null, .null, .null, .null, .null, .null, .null, .null, .null] 5 5 H1 _ := hC.put (j := j1) h1 h2 h3
  clear h1 h2 h3
  refine lv_aload_n hx hb dX7_init_42 rfl (lv_at hl 0 rfl) ?_
  refine lv_bipush (v := 6) hx hb dX7_init_43 (by decide) ?_
  refine sp_newI (b0 := (s.heap.size + 5)) hC.2.2.1 hx hb arrInt hK 6 (by decide) (by decide) (by decide) (Nat.le_of_ble_eq_true rfl) (Nat.le_of_ble_eq_true rfl) dX7_init_45 (fun H1 hN hN2 hN3 => ?_)
  replace hC : CB g (cntM g) a lo 9 s.heap [.int 0, .int 0, .int 0, .int 0, .int 0, .ref (s.heap.size + 0), .ref (s.heap.size + 1), .ref (s.heap.size + 2), .ref (s.heap.size + 3), .ref (s.heap.size + 4), .null, .null, .null, .null, .null, .null, .null, .null, .null, .null, .null, .null, .null, .null, .null, .null, .null, .null, .null] 6 6 H1 _ := hC.new hN hN2 hN3
  clear hN hN2 hN3
  refine sp_putF (ref := RX7) (C := RX7) (T := TX7) (N := 29) (ci := 9) (ty := (.array .int)) (v := .ref (s.heap.size + 5)) hx hb hts hinX7 tyX7 tyX7_ok nmX7 hown hK hC.1 rfl 10 (by decide) lk26 (fun _ h => h) rfl hname rfl (by decide +kernel) rfl rfl (show 10 < 29 from by decide) dX7_init_47 (fun H1 j1 h1 h2 h3 => ?_)
  replace hC : CB g (cntM g) a lo 9 s.heap [.int 0, .int 0, .int 0, .int 0, .int 0, .ref (s.heap.size + 0), .ref (s.heap.size + 1), .ref (s.heap.size + 2), .ref (s.heap.size + 3), .ref (s.heap.size + 4), .ref (s.heap.size + 5), .null, .null, .null, .null, .null, .null, .null, .null, .null, .null, .null, .null, .null, .null, .null, .null, .null, .null] 6 6 H1 _ := hC.put (j := j1) h1 h2 h3
  clear h1 h2 h3
  refine lv_aload_n hx hb dX7_init_50 rfl (lv_at hl 0 rfl) ?_
  refine lv_bipush (v := 6) hx hb dX7_init_51 (by decide) ?_
  refine sp_newI (b0 := (s.heap.size + 6)) hC.2.2.1 hx hb arrInt hK 6 (by decide) (by decide) (by decide) (Nat.le_of_ble_eq_true rfl) (Nat.le_of_ble_eq_true rfl) dX7_init_53 (fun H1 hN hN2 hN3 => ?_)
  replace hC : CB g (cntM g) a lo 9 s.heap [.int 0, .int 0, .int 0, .int 0, .int 0, .ref (s.heap.size + 0), .ref (s.heap.size + 1), .ref (s.heap.size + 2), .ref (s.heap.size + 3), .ref (s.heap.size + 4), .ref (s.heap.size + 5), .null, .null, .null, .null, .null, .null, .null, .null, .null, .null, .null, .null, .null, .null, .null, .null, .null, .null] 7 7 H1 _ := hC.new hN hN2 hN3
  clear hN hN2 hN3
  refine sp_putF (ref := RX7) (C := RX7) (T := TX7) (N := 29) (ci := 9) (ty := (.array .int)) (v := .ref (s.heap.size + 6)) hx hb hts hinX7 tyX7 tyX7_ok nmX7 hown hK hC.1 rfl 11 (by decide) lk29 (fun _ h => h) rfl hname rfl (by decide +kernel) rfl rfl (show 11 < 29 from by decide) dX7_init_55 (fun H1 j1 h1 h2 h3 => ?_)
  replace hC : CB g (cntM g) a lo 9 s.heap [.int 0, .int 0, .int 0, .int 0, .int 0, .ref (s.heap.size + 0), .ref (s.heap.size + 1), .ref (s.heap.size + 2), .ref (s.heap.size + 3), .ref (s.heap.size + 4), .ref (s.heap.size + 5), .ref (s.heap.size + 6), .null, .null, .null, .null, .null, .null, .null, .null, .null, .null, .null, .null, .null, .null, .null, .null, .null] 7 7 H1 _ := hC.put (j := j1) h1 h2 h3
  clear h1 h2 h3
  refine lv_aload_n hx hb dX7_init_58 rfl (lv_at hl 0 rfl) ?_
  refine lv_bipush (v := 6) hx hb dX7_init_59 (by decide) ?_
  refine sp_newI (b0 := (s.heap.size + 7)) hC.2.2.1 hx hb arrInt hK 6 (by decide) (by decide) (by decide) (Nat.le_of_ble_eq_true rfl) (Nat.le_of_ble_eq_true rfl) dX7_init_61 (fun H1 hN hN2 hN3 => ?_)
  replace hC : CB g (cntM g) a lo 9 s.heap [.int 0, .int 0, .int 0, .int 0, .int 0, .ref (s.heap.size + 0), .ref (s.heap.size + 1), .ref (s.heap.size + 2), .ref (s.heap.size + 3), .ref (s.heap.size + 4), .ref (s.heap.size + 5), .ref (s.heap.size + 6), .null, .null, .null, .null, .null, .null, .null, .null, .null, .null, .null, .null, .null, .null, .null, .null, .null] 8 8 H1 _ := hC.new hN hN2 hN3
  clear hN hN2 hN3
  refine sp_putF (ref := RX7) (C := RX7) (T := TX7) (N := 29) (ci := 9) (ty := (.array .int)) (v := .ref (s.heap.size + 7)) hx hb hts hinX7 tyX7 tyX7_ok nmX7 hown hK hC.1 rfl 12 (by decide) lk32 (fun _ h => h) rfl hname rfl (by decide +kernel) rfl rfl (show 12 < 29 from by decide) dX7_init_63 (fun H1 j1 h1 h2 h3 => ?_)
  replace hC : CB g (cntM g) a lo 9 s.heap [.int 0, .int 0, .int 0, .int 0, .int 0, .ref (s.heap.size + 0), .ref (s.heap.size + 1), .ref (s.heap.size + 2), .ref (s.heap.size + 3), .ref (s.heap.size + 4), .ref (s.heap.size + 5), .ref (s.heap.size + 6), .ref (s.heap.size + 7), .null, .null, .null, .null, .null, .null, .null, .null, .null, .null, .null, .null, .null, .null, .null, .null] 8 8 H1 _ := hC.put (j := j1) h1 h2 h3
  clear h1 h2 h3
  refine lv_aload_n hx hb dX7_init_66 rfl (lv_at hl 0 rfl) ?_
  refine lv_bipush (v := 6) hx hb dX7_init_67 (by decide) ?_
  refine sp_newI (b0 := (s.heap.size + 8)) hC.2.2.1 hx hb arrInt hK 6 (by decide) (by decide) (by decide) (Nat.le_of_ble_eq_true rfl) (Nat.le_of_ble_eq_true rfl) dX7_init_69 (fun H1 hN hN2 hN3 => ?_)
  replace hC : CB g (cntM g) a lo 9 s.heap [.int 0, .int 0, .int 0, .int 0, .int 0, .ref (s.heap.size + 0), .ref (s.heap.size + 1), .ref (s.heap.size + 2), .ref (s.heap.size + 3), .ref (s.heap.size + 4), .ref (s.heap.size + 5), .ref (s.heap.size + 6), .ref (s.heap.size + 7), .null, .null, .null, .null, .null, .null, .null, .null, .null, .null, .null, .null, .null, .null, .null, .null] 9 9 H1 _ := hC.new hN hN2 hN3
  clear hN hN2 hN3
  refine sp_putF (ref := RX7) (C := RX7) (T := TX7) (N := 29) (ci := 9) (ty := (.array .int)) (v := .ref (s.heap.size + 8)) hx hb hts hinX7 tyX7 tyX7_ok nmX7 hown hK hC.1 rfl 13 (by decide) lk35 (fun _ h => h) rfl hname rfl (by decide +kernel) rfl rfl (show 13 < 29 from by decide) dX7_init_71 (fun H1 j1 h1 h2 h3 => ?_)
  replace hC : CB g (cntM g) a lo 9 s.heap [.int 0, .int 0, .int 0, .int 0, .int 0, .ref (s.heap.size + 0), .ref (s.heap.size + 1), .ref (s.heap.size + 2), .ref (s.heap.size + 3), .ref (s.heap.size + 4), .ref (s.heap.size + 5), .ref (s.heap.size + 6), .ref (s.heap.size + 7), .ref (s.heap.size + 8), .null, .null, .null, .null, .null, .null, .null, .null, .null, .null, .null, .null, .null, .null, .null] 9 9 H1 _ := hC.put (j := j1) h1 h2 h3
  clear h1 h2 h3
  refine lv_aload_n hx hb dX7_init_74 rfl (lv_at hl 0 rfl) ?_
  refine lv_bipush (v := 24) hx hb dX7_init_75 (by decide) ?_
  refine sp_newI (b0 := (s.heap.size + 9)) hC.2.2.1 hx hb arrInt hK 24 (by decide) (by decide) (by decide) (Nat.le_of_ble_eq_true rfl) (Nat.le_of_ble_eq_true rfl) dX7_init_77 (fun H1 hN hN2 hN3 => ?_)
  replace hC : CB g (cntM g) a lo 9 s.heap [.int 0, .int 0, .int 0, .int 0, .int 0, .ref (s.heap.size + 0), .ref (s.heap.size + 1), .ref (s.heap.size + 2), .ref (s.heap.size + 3), .ref (s.heap.size + 4), .ref (s.heap.size + 5), .ref (s.heap.size + 6), .ref (s.heap.size + 7), .ref (s.heap.size + 8), .null, .null, .null, .null, .null, .null, .null, .null, .null, .null, .null, .null, .null, .null, .null] 10 10 H1 _ := hC.new hN hN2 hN3
  clear hN hN2 hN3
  refine sp_putF (ref := RX7) (C := RX7) (T := TX7) (N := 29) (ci := 9) (ty := (.array .int)) (v := .ref (s.heap.size + 9)) hx hb hts hinX7 tyX7 tyX7_ok nmX7 hown hK hC.1 rfl 14 (by decide) lk38 (fun _ h => h) rfl hname rfl (by decide +kernel) rfl rfl (show 14 < 29 from by decide) dX7_init_79 (fun H1 j1 h1 h2 h3 => ?_)
  replace hC : CB g (cntM g) a lo 9 s.heap [.int 0, .int 0, .int 0, .int 0, .int 0, .ref (s.heap.size + 0), .ref (s.heap.size + 1), .ref (s.heap.size + 2), .ref (s.heap.size + 3), .ref (s.heap.size + 4), .ref (s.heap.size + 5), .ref (s.heap.size + 6), .ref (s.heap.size + 7), .ref (s.heap.size + 8), .ref (s.heap.size + 9), .null, .null, .null, .null, .null, .null, .null, .null, .null, .null, .null, .null, .null, .null] 10 10 H1 _ := hC.put (j := j1) h1 h2 h3
  clear h1 h2 h3
  refine lv_aload_n hx hb dX7_init_82 rfl (lv_at hl 0 rfl) ?_
  refine lv_bipush (v := 24) hx hb dX7_init_83 (by decide) ?_
  refine sp_newI (b0 := (s.heap.size + 10)) hC.2.2.1 hx hb arrInt hK 24 (by decide) (by decide) (by decide) (Nat.le_of_ble_eq_true rfl) (Nat.le_of_ble_eq_true rfl) dX7_init_85 (fun H1 hN hN2 hN3 => ?_)
  replace hC : CB g (cntM g) a lo 9 s.heap [.int 0, .int 0, .int 0, .int 0, .int 0, .ref (s.heap.size + 0), .ref (s.heap.size + 1), .ref (s.heap.size + 2), .ref (s.heap.size + 3), .ref (s.heap.size + 4), .ref (s.heap.size + 5), .ref (s.heap.size + 6), .ref (s.heap.size + 7), .ref (s.heap.size + 8), .ref (s.heap.size + 9), .null, .null, .null, .null, .null, .null, .null, .null, .null, .null, .null, .null, .null, .null] 11 11 H1 _ := hC.new hN hN2 hN3
  clear hN hN2 hN3
  refine sp_putF (ref := RX7) (C := RX7) (T := TX7) (N := 29) (ci := 9) (ty := (.array .int)) (v := .ref (s.heap.size + 10)) hx hb hts hinX7 tyX7 tyX7_ok nmX7 hown hK hC.1 rfl 15 (by decide) lk41 (fun _ h => h) rfl hname rfl (by decide +kernel) rfl rfl (show 15 < 29 from by decide) dX7_init_87 (fun H1 j1 h1 h2 h3 => ?_)
  replace hC : CB g (cntM g) a lo 9 s.heap [.int 0, .int 0, .int 0, .int 0, .int 0, .ref (s.heap.size + 0), .ref (s.heap.size + 1), .ref (s.heap.size + 2), .ref (s.heap.size + 3), .ref (s.heap.size + 4), .ref (s.heap.size + 5), .ref (s.heap.size + 6), .ref (s.heap.size + 7), .ref (s.heap.size + 8), .ref (s.heap.size + 9), .ref (s.heap.size + 10), .null, .null, .null, .null, .null, .null, .null, .null, .null, .null, .null, .null, .null] 11 11 H1 _ := hC.put (j := j1) h1 h2 h3
  clear h1 h2 h3
  refine lv_aload_n hx hb dX7_init_90 rfl (lv_at hl 0 rfl) ?_
  refine lv_bipush (v := 72) hx hb dX7_init_91 (by decide) ?_
  refine sp_newI (b0 := (s.heap.size + 11)) hC.2.2.1 hx hb arrInt hK 72 (by decide) (by decide) (by decide) (Nat.le_of_ble_eq_true rfl) (Nat.le_of_ble_eq_true rfl) dX7_init_93 (fun H1 hN hN2 hN3 => ?_)
  replace hC : CB g (cntM g) a lo 9 s.heap [.int 0, .int 0, .int 0, .int 0, .int 0, .ref (s.heap.size + 0), .ref (s.heap.size + 1), .ref (s.heap.size + 2), .ref (s.heap.size + 3), .ref (s.heap.size + 4), .ref (s.heap.size + 5), .ref (s.heap.size + 6), .ref (s.heap.size + 7), .ref (s.heap.size + 8), .ref (s.heap.size + 9), .ref (s.heap.size + 10), .null, .null, .null, .null, .null, .null, .null, .null, .null, .null, .null, .null, .null] 12 12 H1 _ := hC.new hN hN2 hN3
  clear hN hN2 hN3
  refine sp_putF (ref := RX7) (C := RX7) (T := TX7) (N := 29) (ci := 9) (ty := (.array .int)) (v := .ref (s.heap.size + 11)) hx hb hts hinX7 tyX7 tyX7_ok nmX7 hown hK hC.1 rfl 16 (by decide) lk44 (fun _ h => h) rfl hname rfl (by decide +kernel) rfl rfl (show 16 < 29 from by decide) dX7_init_95 (fun H1 j1 h1 h2 h3 => ?_)
  replace hC : CB g (cntM g) a lo 9 s.heap [.int 0, .int 0, .int 0, .int 0, .int 0, .ref (s.heap.size + 0), .ref (s.heap.size + 1), .ref (s.heap.size + 2), .ref (s.heap.size + 3), .ref (s.heap.size + 4), .ref (s.heap.size + 5), .ref (s.heap.size + 6), .ref (s.heap.size + 7), .ref (s.heap.size + 8), .ref (s.heap.size + 9), .ref (s.heap.size + 10), .ref (s.heap.size + 11), .null, .null, .null, .null, .null, .null, .null, .null, .null, .null, .null, .null] 12 12 H1 _ := hC.put (j := j1) h1 h2 h3
  clear h1 h2 h3
  refine lv_aload_n hx hb dX7_init_98 rfl (lv_at hl 0 rfl) ?_
  refine lv_bipush (v := 24) hx hb dX7_init_99 (by decide) ?_
  refine sp_newI (b0 := (s.heap.size + 12)) hC.2.2.1 hx hb arrInt hK 24 (by decide) (by decide) (by decide) (Nat.le_of_ble_eq_true rfl) (Nat.le_of_ble_eq_true rfl) dX7_init_101 (fun H1 hN hN2 hN3 => ?_)
  replace hC : CB g (cntM g) a lo 9 s.heap [.int 0, .int 0, .int 0, .int 0, .int 0, .ref (s.heap.size + 0), .ref (s.heap.size + 1), .ref (s.heap.size + 2), .ref (s.heap.size + 3), .ref (s.heap.size + 4), .ref (s.heap.size + 5), .ref (s.heap.size + 6), .ref (s.heap.size + 7), .ref (s.heap.size + 8), .ref (s.heap.size + 9), .ref (s.heap.size + 10), .ref (s.heap.size + 11), .null, .null, .null, .null, .null, .null, .null, .null, .null, .null, .null, .null] 13 13 H1 _ := hC.new hN hN2 hN3
  clear hN hN2 hN3
  refine sp_putF (ref := RX7) (C := RX7) (T := TX7) (N := 29) (ci := 9) (ty := (.array .int)) (v := .ref (s.heap.size + 12)) hx hb hts hinX7 tyX7 tyX7_ok nmX7 hown hK hC.1 rfl 17 (by decide) lk47 (fun _ h => h) rfl hname rfl (by decide +kernel) rfl rfl (show 17 < 29 from by decide) dX7_init_103 (fun H1 j1 h1 h2 h3 => ?_)
  replace hC : CB g (cntM g) a lo 9 s.heap [.int 0, .int 0, .int 0, .int 0, .int 0, .ref (s.heap.size + 0), .ref (s.heap.size + 1), .ref (s.heap.size + 2), .ref (s.heap.size + 3), .ref (s.heap.size + 4), .ref (s.heap.size + 5), .ref (s.heap.size + 6), .ref (s.heap.size + 7), .ref (s.heap.size + 8), .ref (s.heap.size + 9), .ref (s.heap.size + 10), .ref (s.heap.size + 11), .ref (s.heap.size + 12), .null, .null, .null, .null, .null, .null, .null, .null, .null, .null, .null] 13 13 H1 _ := hC.put (j := j1) h1 h2 h3
  clear h1 h2 h3
  refine lv_aload_n hx hb dX7_init_106 rfl (lv_at hl 0 rfl) ?_
  refine lv_bipush (v := 24) hx hb dX7_init_107 (by decide) ?_
  refine sp_newI (b0 := (s.heap.size + 13)) hC.2.2.1 hx hb arrInt hK 24 (by decide) (by decide) (by decide) (Nat.le_of_ble_eq_true rfl) (Nat.le_of_ble_eq_true rfl) dX7_init_109 (fun H1 hN hN2 hN3 => ?_)
  replace hC : CB g (cntM g) a lo 9 s.heap [.int 0, .int 0, .int 0, .int 0, .int 0, .ref (s.heap.size + 0), .ref (s.heap.size + 1), .ref (s.heap.size + 2), .ref (s.heap.size + 3), .ref (s.heap.size + 4), .ref (s.heap.size + 5), .ref (s.heap.size + 6), .ref (s.heap.size + 7), .ref (s.heap.size + 8), .ref (s.heap.size + 9), .ref (s.heap.size + 10), .ref (s.heap.size + 11), .ref (s.heap.size + 12), .null, .null, .null, .null, .null, .null, .null, .null, .null, .null, .null] 14 14 H1 _ := hC.new hN hN2 hN3
  clear hN hN2 hN3
  refine sp_putF (ref := RX7) (C := RX7) (T := TX7) (N := 29) (ci := 9) (ty := (.array .int)) (v := .ref (s.heap.size + 13)) hx hb hts hinX7 tyX7 tyX7_ok nmX7 hown hK hC.1 rfl 18 (by decide) lk50 (fun _ h => h) rfl hname rfl (by decide +kernel) rfl rfl (show 18 < 29 from by decide) dX7_init_111 (fun H1 j1 h1 h2 h3 => ?_)
  replace hC : CB g (cntM g) a lo 9 s.heap [.int 0, .int 0, .int 0, .int 0, .int 0, .ref (s.heap.size + 0), .ref (s.heap.size + 1), .ref (s.heap.size + 2), .ref (s.heap.size + 3), .ref (s.heap.size + 4), .ref (s.heap.size + 5), .ref (s.heap.size + 6), .ref (s.heap.size + 7), .ref (s.heap.size + 8), .ref (s.heap.size + 9), .ref (s.heap.size + 10), .ref (s.heap.size + 11), .ref (s.heap.size + 12), .ref (s.heap.size + 13), .null, .null, .null, .null, .null, .null, .null, .null, .null, .null] 14 14 H1 _ := hC.put (j := j1) h1 h2 h3
  clear h1 h2 h3
  refine lv_aload_n hx hb dX7_init_114 rfl (lv_at hl 0 rfl) ?_
  refine lv_bipush (v := 24) hx hb dX7_init_115 (by decide) ?_
  refine sp_newI (b0 := (s.heap.size + 14)) hC.2.2.1 hx hb arrInt hK 24 (by decide) (by decide) (by decide) (Nat.le_of_ble_eq_true rfl) (Nat.le_of_ble_eq_true rfl) dX7_init_117 (fun H1 hN hN2 hN3 => ?_)
  replace hC : CB g (cntM g) a lo 9 s.heap [.int 0, .int 0, .int 0, .int 0, .int 0, .ref (s.heap.size + 0), .ref (s.heap.size + 1), .ref (s.heap.size + 2), .ref (s.heap.size + 3), .ref (s.heap.size + 4), .ref (s.heap.size + 5), .ref (s.heap.size + 6), .ref (s.heap.size + 7), .ref (s.heap.size + 8), .ref (s.heap.size + 9), .ref (s.heap.size + 10), .ref (s.heap.size + 11), .ref (s.heap.size + 12), .ref (s.heap.size + 13), .null, .null, .null, .null, .null, .null, .null, .null, .null, .null] 15 15 H1 _ := hC.new hN hN2 hN3
  clear hN hN2 hN3
  refine sp_putF (ref := RX7) (C := RX7) (T := TX7) (N := 29) (ci := 9) (ty := (.array .int)) (v := .ref (s.heap.size + 14)) hx hb hts hinX7 tyX7 tyX7_ok nmX7 hown hK hC.1 rfl 19 (by decide) lk53 (fun _ h => h) rfl hname rfl (by decide +kernel) rfl rfl (show 19 < 29 from by decide) dX7_init_119 (fun H1 j1 h1 h2 h3 => ?_)
  replace hC : CB g (cntM g) a lo 9 s.heap [.int 0, .int 0, .int 0, .int 0, .int 0, .ref (s.heap.size + 0), .ref (s.heap.size + 1), .ref (s.heap.size + 2), .ref (s.heap.size + 3), .ref (s.heap.size + 4), .ref (s.heap.size + 5), .ref (s.heap.size + 6), .ref (s.heap.size + 7), .ref (s.heap.size + 8), .ref (s.heap.size + 9), .ref (s.heap.size + 10), .ref (s.heap.size + 11), .ref (s.heap.size + 12), .ref (s.heap.size + 13), .ref (s.heap.size + 14), .null, .null, .null, .null, .null, .null, .null, .null, .null] 15 15 H1 _ := hC.put (j := j1) h1 h2 h3
  clear h1 h2 h3
  refine lv_aload_n hx hb dX7_init_122 rfl (lv_at hl 0 rfl) ?_
  refine lv_bipush (v := 24) hx hb dX7_init_123 (by decide) ?_
  refine sp_newI (b0 := (s.heap.size + 15)) hC.2.2.1 hx hb arrInt hK 24 (by decide) (by decide) (by decide) (Nat.le_of_ble_eq_true rfl) (Nat.le_of_ble_eq_true rfl) dX7_init_125 (fun H1 hN hN2 hN3 => ?_)
  replace hC : CB g (cntM g) a lo 9 s.heap [.int 0, .int 0, .int 0, .int 0, .int 0, .ref (s.heap.size + 0), .ref (s.heap.size + 1), .ref (s.heap.size + 2), .ref (s.heap.size + 3), .ref (s.heap.size + 4), .ref (s.heap.size + 5), .ref (s.heap.size + 6), .ref (s.heap.size + 7), .ref (s.heap.size + 8), .ref (s.heap.size + 9), .ref (s.heap.size + 10), .ref (s.heap.size + 11), .ref (s.heap.size + 12), .ref (s.heap.size + 13), .ref (s.heap.size + 14), .null, .null, .null, .null, .null, .null, .null, .null, .null] 16 16 H1 _ := hC.new hN hN2 hN3
  clear hN hN2 hN3
  refine sp_putF (ref := RX7) (C := RX7) (T := TX7) (N := 29) (ci := 9) (ty := (.array .int)) (v := .ref (s.heap.size + 15)) hx hb hts hinX7 tyX7 tyX7_ok nmX7 hown hK hC.1 rfl 20 (by decide) lk56 (fun _ h => h) rfl hname rfl (by decide +kernel) rfl rfl (show 20 < 29 from by decide) dX7_init_127 (fun H1 j1 h1 h2 h3 => ?_)
  replace hC : CB g (cntM g) a lo 9 s.heap [.int 0, .int 0, .int 0, .int 0, .int 0, .ref (s.heap.size + 0), .ref (s.heap.size + 1), .ref (s.heap.size + 2), .ref (s.heap.size + 3), .ref (s.heap.size + 4), .ref (s.heap.size + 5), .ref (s.heap.size + 6), .ref (s.heap.size + 7), .ref (s.heap.size + 8), .ref (s.heap.size + 9), .ref (s.heap.size + 10), .ref (s.heap.size + 11), .ref (s.heap.size + 12), .ref (s.heap.size + 13), .ref (s.heap.size + 14), .ref (s.heap.size + 15), .null, .null, .null, .null, .null, .null, .null, .null] 16 16 H1 _ := hC.put (j := j1) h1 h2 h3
  clear h1 h2 h3
  refine lv_aload_n hx hb dX7_init_130 rfl (lv_at hl 0 rfl) ?_
  refine lv_bipush (v := 24) hx hb dX7_init_131 (by decide) ?_
  refine sp_newC (b0 := (s.heap.size + 16)) hC.2.2.1 hx hb arrChar hK 24 (by decide) (by decide) (by decide) (Nat.le_of_ble_eq_true rfl) (Nat.le_of_ble_eq_true rfl) dX7_init_133 (fun H1 hN hN2 hN3 => ?_)
  replace hC : CB g (cntM g) a lo 9 s.heap [.int 0, .int 0, .int 0, .int 0, .int 0, .ref (s.heap.size + 0), .ref (s.heap.size + 1), .ref (s.heap.size + 2), .ref (s.heap.size + 3), .ref (s.heap.size + 4), .ref (s.heap.size + 5), .ref (s.heap.size + 6), .ref (s.heap.size + 7), .ref (s.heap.size + 8), .ref (s.heap.size + 9), .ref (s.heap.size + 10), .ref (s.heap.size + 11), .ref (s.heap.size + 12), .ref (s.heap.size + 13), .ref (s.heap.size + 14), .ref (s.heap.size + 15), .null, .null, .null, .null, .null, .null, .null, .null] 17 17 H1 _ := hC.new hN hN2 hN3
  clear hN hN2 hN3
  refine sp_putF (ref := RX7) (C := RX7) (T := TX7) (N := 29) (ci := 9) (ty := (.array .char)) (v := .ref (s.heap.size + 16)) hx hb hts hinX7 tyX7 tyX7_ok nmX7 hown hK hC.1 rfl 21 (by decide) lk59 (fun _ h => h) rfl hname rfl (by decide +kernel) rfl rfl (show 21 < 29 from by decide) dX7_init_135 (fun H1 j1 h1 h2 h3 => ?_)
  replace hC : CB g (cntM g) a lo 9 s.heap [.int 0, .int 0, .int 0, .int 0, .int 0, .ref (s.heap.size + 0), .ref (s.heap.size + 1), .ref (s.heap.size + 2), .ref (s.heap.size + 3), .ref (s.heap.size + 4), .ref (s.heap.size + 5), .ref (s.heap.size + 6), .ref (s.heap.size + 7), .ref (s.heap.size + 8), .ref (s.heap.size + 9), .ref (s.heap.size + 10), .ref (s.heap.size + 11), .ref (s.heap.size + 12), .ref (s.heap.size + 13), .ref (s.heap.size + 14), .ref (s.heap.size + 15), .ref (s.heap.size + 16), .null, .null, .null, .null, .null, .null, .null] 17 17 H1 _ := hC.put (j := j1) h1 h2 h3
  clear h1 h2 h3
  refine lv_aload_n hx hb dX7_init_138 rfl (lv_at hl 0 rfl) ?_
  refine lv_iconst (v := 4) hx hb dX7_init_139 (by decide) ?_
  refine sp_newI (b0 := (s.heap.size + 17)) hC.2.2.1 hx hb arrInt hK 4 (by decide) (by decide) (by decide) (Nat.le_of_ble_eq_true rfl) (Nat.le_of_ble_eq_true rfl) dX7_init_140 (fun H1 hN hN2 hN3 => ?_)
  replace hC : CB g (cntM g) a lo 9 s.heap [.int 0, .int 0, .int 0, .int 0, .int 0, .ref (s.heap.size + 0), .ref (s.heap.size + 1), .ref (s.heap.size + 2), .ref (s.heap.size + 3), .ref (s.heap.size + 4), .ref (s.heap.size + 5), .ref (s.heap.size + 6), .ref (s.heap.size + 7), .ref (s.heap.size + 8), .ref (s.heap.size + 9), .ref (s.heap.size + 10), .ref (s.heap.size + 11), .ref (s.heap.size + 12), .ref (s.heap.size + 13), .ref (s.heap.size + 14), .ref (s.heap.size + 15), .ref (s.heap.size + 16), .null, .null, .null, .null, .null, .null, .null] 18 18 H1 _ := hC.new hN hN2 hN3
  clear hN hN2 hN3
  refine sp_putF (ref := RX7) (C := RX7) (T := TX7) (N := 29) (ci := 9) (ty := (.array .int)) (v := .ref (s.heap.size + 17)) hx hb hts hinX7 tyX7 tyX7_ok nmX7 hown hK hC.1 rfl 22 (by decide) lk63 (fun _ h => h) rfl hname rfl (by decide +kernel) rfl rfl (show 22 < 29 from by decide) dX7_init_142 (fun H1 j1 h1 h2 h3 => ?_)
  replace hC : CB g (cntM g) a lo 9 s.heap [.int 0, .int 0, .int 0, .int 0, .int 0, .ref (s.heap.size + 0), .ref (s.heap.size + 1), .ref (s.heap.size + 2), .ref (s.heap.size + 3), .ref (s.heap.size + 4), .ref (s.heap.size + 5), .ref (s.heap.size + 6), .ref (s.heap.size + 7), .ref (s.heap.size + 8), .ref (s.heap.size + 9), .ref (s.heap.size + 10), .ref (s.heap.size + 11), .ref (s.heap.size + 12), .ref (s.heap.size + 13), .ref (s.heap.size + 14), .ref (s.heap.size + 15), .ref (s.heap.size + 16), .ref (s.heap.size + 17), .null, .null, .null, .null, .null, .null] 18 18 H1 _ := hC.put (j := j1) h1 h2 h3
  clear h1 h2 h3
  refine lv_aload_n hx hb dX7_init_145 rfl (lv_at hl 0 rfl) ?_
  refine lv_iconst (v := 4) hx hb dX7_init_146 (by decide) ?_
  refine sp_newI (b0 := (s.heap.size + 18)) hC.2.2.1 hx hb arrInt hK 4 (by decide) (by decide) (by decide) (Nat.le_of_ble_eq_true rfl) (Nat.le_of_ble_eq_true rfl) dX7_init_147 (fun H1 hN hN2 hN3 => ?_)
  replace hC : CB g (cntM g) a lo 9 s.heap [.int 0, .int 0, .int 0, .int 0, .int 0, .ref (s.heap.size + 0), .ref (s.heap.size + 1), .ref (s.heap.size + 2), .ref (s.heap.size + 3), .ref (s.heap.size + 4), .ref (s.heap.size + 5), .ref (s.heap.size + 6), .ref (s.heap.size + 7), .ref (s.heap.size + 8), .ref (s.heap.size + 9), .ref (s.heap.size + 10), .ref (s.heap.size + 11), .ref (s.heap.size + 12), .ref (s.heap.size + 13), .ref (s.heap.size + 14), .ref (s.heap.size + 15), .ref (s.heap.size + 16), .ref (s.heap.size + 17), .null, .null, .null, .null, .null, .null] 19 19 H1 _ := hC.new hN hN2 hN3
  clear hN hN2 hN3
  refine sp_putF (ref := RX7) (C := RX7) (T := TX7) (N := 29) (ci := 9) (ty := (.array .int)) (v := .ref (s.heap.size + 18)) hx hb hts hinX7 tyX7 tyX7_ok nmX7 hown hK hC.1 rfl 23 (by decide) lk66 (fun _ h => h) rfl hname rfl (by decide +kernel) rfl rfl (show 23 < 29 from by decide) dX7_init_149 (fun H1 j1 h1 h2 h3 => ?_)
  replace hC : CB g (cntM g) a lo 9 s.heap [.int 0, .int 0, .int 0, .int 0, .int 0, .ref (s.heap.size + 0), .ref (s.heap.size + 1), .ref (s.heap.size + 2), .ref (s.heap.size + 3), .ref (s.heap.size + 4), .ref (s.heap.size + 5), .ref (s.heap.size + 6), .ref (s.heap.size + 7), .ref (s.heap.size + 8), .ref (s.heap.size + 9), .ref (s.heap.size + 10), .ref (s.heap.size + 11), .ref (s.heap.size + 12), .ref (s.heap.size + 13), .ref (s.heap.size + 14), .ref (s.heap.size + 15), .ref (s.heap.size + 16), .ref (s.heap.size + 17), .ref (s.heap.size + 18), .null, .null, .null, .null, .null] 19 19 H1 _ := hC.put (j := j1) h1 h2 h3
  clear h1 h2 h3
  refine lv_aload_n hx hb dX7_init_152 rfl (lv_at hl 0 rfl) ?_
  refine lv_iconst (v := 4) hx hb dX7_init_153 (by decide) ?_
  refine sp_newI (b0 := (s.heap.size + 19)) hC.2.2.1 hx hb arrInt hK 4 (by decide) (by decide) (by decide) (Nat.le_of_ble_eq_true rfl) (Nat.le_of_ble_eq_true rfl) dX7_init_154 (fun H1 hN hN2 hN3 => ?_)
  replace hC : CB g (cntM g) a lo 9 s.heap [.int 0, .int 0, .int 0, .int 0, .int 0, .ref (s.heap.size + 0), .ref (s.heap.size + 1), .ref (s.heap.size + 2), .ref (s.heap.size + 3), .ref (s.heap.size + 4), .ref (s.heap.size + 5), .ref (s.heap.size + 6), .ref (s.heap.size + 7), .ref (s.heap.size + 8), .ref (s.heap.size + 9), .ref (s.heap.size + 10), .ref (s.heap.size + 11), .ref (s.heap.size + 12), .ref (s.heap.size + 13), .ref (s.heap.size + 14), .ref (s.heap.size + 15), .ref (s.heap.size + 16), .ref (s.heap.size + 17), .ref (s.heap.size + 18), .null, .null, .null, .null, .null] 20 20 H1 _ := hC.new hN hN2 hN3
  clear hN hN2 hN3
  refine sp_putF (ref := RX7) (C := RX7) (T := TX7) (N := 29) (ci := 9) (ty := (.array .int)) (v := .ref (s.heap.size + 19)) hx hb hts hinX7 tyX7 tyX7_ok nmX7 hown hK hC.1 rfl 24 (by decide) lk69 (fun _ h => h) rfl hname rfl (by decide +kernel) rfl rfl (show 24 < 29 from by decide) dX7_init_156 (fun H1 j1 h1 h2 h3 => ?_)
  replace hC : CB g (cntM g) a lo 9 s.heap [.int 0, .int 0, .int 0, .int 0, .int 0, .ref (s.heap.size + 0), .ref (s.heap.size + 1), .ref (s.heap.size + 2), .ref (s.heap.size + 3), .ref (s.heap.size + 4), .ref (s.heap.size + 5), .ref (s.heap.size + 6), .ref (s.heap.size + 7), .ref (s.heap.size + 8), .ref (s.heap.size + 9), .ref (s.heap.size + 10), .ref (s.heap.size + 11), .ref (s.heap.size + 12), .ref (s.heap.size + 13), .ref (s.heap.size + 14), .ref (s.heap.size + 15), .ref (s.heap.size + 16), .ref (s.heap.size + 17), .ref (s.heap.size + 18), .ref (s.heap.size + 19), .null, .null, .null, .null] 20 20 H1 _ := hC.put (j := j1) h1 h2 h3
  clear h1 h2 h3
  refine lv_aload_n hx hb dX7_init_159 rfl (lv_at hl 0 rfl) ?_
  refine lv_iconst (v := 4) hx hb dX7_init_160 (by decide) ?_
  refine sp_newI (b0 := (s.heap.size + 20)) hC.2.2.1 hx hb arrInt hK 4 (by decide) (by decide) (by decide) (Nat.le_of_ble_eq_true rfl) (Nat.le_of_ble_eq_true rfl) dX7_init_161 (fun H1 hN hN2 hN3 => ?_)
  replace hC : CB g (cntM g) a lo 9 s.heap [.int 0, .int 0, .int 0, .int 0, .int 0, .ref (s.heap.size + 0), .ref (s.heap.size + 1), .ref (s.heap.size + 2), .ref (s.heap.size + 3), .ref (s.heap.size + 4), .ref (s.heap.size + 5), .ref (s.heap.size + 6), .ref (s.heap.size + 7), .ref (s.heap.size + 8), .ref (s.heap.size + 9), .ref (s.heap.size + 10), .ref (s.heap.size + 11), .ref (s.heap.size + 12), .ref (s.heap.size + 13), .ref (s.heap.size + 14), .ref (s.heap.size + 15), .ref (s.heap.size + 16), .ref (s.heap.size + 17), .ref (s.heap.size + 18), .ref (s.heap.size + 19), .null, .null, .null, .null] 21 21 H1 _ := hC.new hN hN2 hN3
  clear hN hN2 hN3
  refine sp_putF (ref := RX7) (C := RX7) (T := TX7) (N := 29) (ci := 9) (ty := (.array .int)) (v := .ref (s.heap.size + 20)) hx hb hts hinX7 tyX7 tyX7_ok nmX7 hown hK hC.1 rfl 25 (by decide) lk72 (fun _ h => h) rfl hname rfl (by decide +kernel) rfl rfl (show 25 < 29 from by decide) dX7_init_163 (fun H1 j1 h1 h2 h3 => ?_)
  replace hC : CB g (cntM g) a lo 9 s.heap [.int 0, .int 0, .int 0, .int 0, .int 0, .ref (s.heap.size + 0), .ref (s.heap.size + 1), .ref (s.heap.size + 2), .ref (s.heap.size + 3), .ref (s.heap.size + 4), .ref (s.heap.size + 5), .ref (s.heap.size + 6), .ref (s.heap.size + 7), .ref (s.heap.size + 8), .ref (s.heap.size + 9), .ref (s.heap.size + 10), .ref (s.heap.size + 11), .ref (s.heap.size + 12), .ref (s.heap.size + 13), .ref (s.heap.size + 14), .ref (s.heap.size + 15), .ref (s.heap.size + 16), .ref (s.heap.size + 17), .ref (s.heap.size + 18), .ref (s.heap.size + 19), .ref (s.heap.size + 20), .null, .null, .null] 21 21 H1 _ := hC.put (j := j1) h1 h2 h3
  clear h1 h2 h3
  refine lv_aload_n hx hb dX7_init_166 rfl (lv_at hl 0 rfl) ?_
  refine lv_iconst (v := 4) hx hb dX7_init_167 (by decide) ?_
  refine sp_newI (b0 := (s.heap.size + 21)) hC.2.2.1 hx hb arrInt hK 4 (by decide) (by decide) (by decide) (Nat.le_of_ble_eq_true rfl) (Nat.le_of_ble_eq_true rfl) dX7_init_168 (fun H1 hN hN2 hN3 => ?_)
  replace hC : CB g (cntM g) a lo 9 s.heap [.int 0, .int 0, .int 0, .int 0, .int 0, .ref (s.heap.size + 0), .ref (s.heap.size + 1), .ref (s.heap.size + 2), .ref (s.heap.size + 3), .ref (s.heap.size + 4), .ref (s.heap.size + 5), .ref (s.heap.size + 6), .ref (s.heap.size + 7), .ref (s.heap.size + 8), .ref (s.heap.size + 9), .ref (s.heap.size + 10), .ref (s.heap.size + 11), .ref (s.heap.size + 12), .ref (s.heap.size + 13), .ref (s.heap.size + 14), .ref (s.heap.size + 15), .ref (s.heap.size + 16), .ref (s.heap.size + 17), .ref (s.heap.size + 18), .ref (s.heap.size + 19), .ref (s.heap.size + 20), .null, .null, .null] 22 22 H1 _ := hC.new hN hN2 hN3
  clear hN hN2 hN3
  refine sp_putF (ref := RX7) (C := RX7) (T := TX7) (N := 29) (ci := 9) (ty := (.array .int)) (v := .ref (s.heap.size + 21)) hx hb hts hinX7 tyX7 tyX7_ok nmX7 hown hK hC.1 rfl 26 (by decide) lk75 (fun _ h => h) rfl hname rfl (by decide +kernel) rfl rfl (show 26 < 29 from by decide) dX7_init_170 (fun H1 j1 h1 h2 h3 => ?_)
  replace hC : CB g (cntM g) a lo 9 s.heap [.int 0, .int 0, .int 0, .int 0, .int 0, .ref (s.heap.size + 0), .ref (s.heap.size + 1), .ref (s.heap.size + 2), .ref (s.heap.size + 3), .ref (s.heap.size + 4), .ref (s.heap.size + 5), .ref (s.heap.size + 6), .ref (s.heap.size + 7), .ref (s.heap.size + 8), .ref (s.heap.size + 9), .ref (s.heap.size + 10), .ref (s.heap.size + 11), .ref (s.heap.size + 12), .ref (s.heap.size + 13), .ref (s.heap.size + 14), .ref (s.heap.size + 15), .ref (s.heap.size + 16), .ref (s.heap.size + 17), .ref (s.heap.size + 18), .ref (s.heap.size + 19), .ref (s.heap.size + 20), .ref (s.heap.size + 21), .null, .null] 22 22 H1 _ := hC.put (j := j1) h1 h2 h3
  clear h1 h2 h3
  refine lv_aload_n hx hb dX7_init_173 rfl (lv_at hl 0 rfl) ?_
  refine lv_bipush (v := 6) hx hb dX7_init_174 (by decide) ?_
  refine sp_newI (b0 := (s.heap.size + 22)) hC.2.2.1 hx hb arrInt hK 6 (by decide) (by decide) (by decide) (Nat.le_of_ble_eq_true rfl) (Nat.le_of_ble_eq_true rfl) dX7_init_176 (fun H1 hN hN2 hN3 => ?_)
  replace hC : CB g (cntM g) a lo 9 s.heap [.int 0, .int 0, .int 0, .int 0, .int 0, .ref (s.heap.size + 0), .ref (s.heap.size + 1), .ref (s.heap.size + 2), .ref (s.heap.size + 3), .ref (s.heap.size + 4), .ref (s.heap.size + 5), .ref (s.heap.size + 6), .ref (s.heap.size + 7), .ref (s.heap.size + 8), .ref (s.heap.size + 9), .ref (s.heap.size + 10), .ref (s.heap.size + 11), .ref (s.heap.size + 12), .ref (s.heap.size + 13), .ref (s.heap.size + 14), .ref (s.heap.size + 15), .ref (s.heap.size + 16), .ref (s.heap.size + 17), .ref (s.heap.size + 18), .ref (s.heap.size + 19), .ref (s.heap.size + 20), .ref (s.heap.size + 21), .null, .null] 23 23 H1 _ := hC.new hN hN2 hN3
  clear hN hN2 hN3
  refine sp_putF (ref := RX7) (C := RX7) (T := TX7) (N := 29) (ci := 9) (ty := (.array .int)) (v := .ref (s.heap.size + 22)) hx hb hts hinX7 tyX7 tyX7_ok nmX7 hown hK hC.1 rfl 27 (by decide) lk78 (fun _ h => h) rfl hname rfl (by decide +kernel) rfl rfl (show 27 < 29 from by decide) dX7_init_178 (fun H1 j1 h1 h2 h3 => ?_)
  replace hC : CB g (cntM g) a lo 9 s.heap [.int 0, .int 0, .int 0, .int 0, .int 0, .ref (s.heap.size + 0), .ref (s.heap.size + 1), .ref (s.heap.size + 2), .ref (s.heap.size + 3), .ref (s.heap.size + 4), .ref (s.heap.size + 5), .ref (s.heap.size + 6), .ref (s.heap.size + 7), .ref (s.heap.size + 8), .ref (s.heap.size + 9), .ref (s.heap.size + 10), .ref (s.heap.size + 11), .ref (s.heap.size + 12), .ref (s.heap.size + 13), .ref (s.heap.size + 14), .ref (s.heap.size + 15), .ref (s.heap.size + 16), .ref (s.heap.size + 17), .ref (s.heap.size + 18), .ref (s.heap.size + 19), .ref (s.heap.size + 20), .ref (s.heap.size + 21), .ref (s.heap.size + 22), .null] 23 23 H1 _ := hC.put (j := j1) h1 h2 h3
  clear h1 h2 h3
  refine lv_aload_n hx hb dX7_init_181 rfl (lv_at hl 0 rfl) ?_
  refine lv_iconst (v := 1) hx hb dX7_init_182 (by decide) ?_
  refine sp_newI (b0 := (s.heap.size + 23)) hC.2.2.1 hx hb arrInt hK 1 (by decide) (by decide) (by decide) (Nat.le_of_ble_eq_true rfl) (Nat.le_of_ble_eq_true rfl) dX7_init_183 (fun H1 hN hN2 hN3 => ?_)
  replace hC : CB g (cntM g) a lo 9 s.heap [.int 0, .int 0, .int 0, .int 0, .int 0, .ref (s.heap.size + 0), .ref (s.heap.size + 1), .ref (s.heap.size + 2), .ref (s.heap.size + 3), .ref (s.heap.size + 4), .ref (s.heap.size + 5), .ref (s.heap.size + 6), .ref (s.heap.size + 7), .ref (s.heap.size + 8), .ref (s.heap.size + 9), .ref (s.heap.size + 10), .ref (s.heap.size + 11), .ref (s.heap.size + 12), .ref (s.heap.size + 13), .ref (s.heap.size + 14), .ref (s.heap.size + 15), .ref (s.heap.size + 16), .ref (s.heap.size + 17), .ref (s.heap.size + 18), .ref (s.heap.size + 19), .ref (s.heap.size + 20), .ref (s.heap.size + 21), .ref (s.heap.size + 22), .null] 24 24 H1 _ := hC.new hN hN2 hN3
  clear hN hN2 hN3
  refine sp_putF (ref := RX7) (C := RX7) (T := TX7) (N := 29) (ci := 9) (ty := (.array .int)) (v := .ref (s.heap.size + 23)) hx hb hts hinX7 tyX7 tyX7_ok nmX7 hown hK hC.1 rfl 28 (by decide) lk81 (fun _ h => h) rfl hname rfl (by decide +kernel) rfl rfl (show 28 < 29 from by decide) dX7_init_185 (fun H1 j1 h1 h2 h3 => ?_)
  replace hC : CB g (cntM g) a lo 9 s.heap [.int 0, .int 0, .int 0, .int 0, .int 0, .ref (s.heap.size + 0), .ref (s.heap.size + 1), .ref (s.heap.size + 2), .ref (s.heap.size + 3), .ref (s.heap.size + 4), .ref (s.heap.size + 5), .ref (s.heap.size + 6), .ref (s.heap.size + 7), .ref (s.heap.size + 8), .ref (s.heap.size + 9), .ref (s.heap.size + 10), .ref (s.heap.size + 11), .ref (s.heap.size + 12), .ref (s.heap.size + 13), .ref (s.heap.size + 14), .ref (s.heap.size + 15), .ref (s.heap.size + 16), .ref (s.heap.size + 17), .ref (s.heap.size + 18), .ref (s.heap.size + 19), .ref (s.heap.size + 20), .ref (s.heap.size + 21), .ref (s.heap.size + 22), .ref (s.heap.size + 23)] 24 24 H1 _ := hC.put (j := j1) h1 h2 h3
  clear h1 h2 h3
  exact W.vret hx hb hr (fun t ht9 hW => ⟨rfl, by rw [ht9]; exact (MR_init hlo ha hC.1 hC.2.1), by rw [ht9]; exact hC.2.2.1, fun q q1 q2 => by rw [ht9]; exact hC.2.2.2.1 q q1 q2⟩) hC.2.2.2.2.1 dX7_init_188
