theorem tw_inX6_dye_4 : ∀ w ∈ (vx_at0 RX6 129 (en 4) exN).filter goodWord, w ∈ wsX6_dye := by decide +kernel
set_option maxHeartbeats 4000000 in
set_option maxRecDepth 100000 in
theorem qX6_dye (la : Launch) (hst : la.stackTraces = false) (g : EG) (lo : Nat) (ad : Nat → Nat → Nat) (σ : Sg) (u : Nat → Int64) (τ : Sg) (hI : INV σ) (hA : XA lo ad σ) (l v a b d : Int32) : vx_Met la yX6_dye wsX6_dye ({ frames := 8, cells := 6, slots := 36, locals := 144 } : Room) (va_Pc [.ref (ad 0 0), .int l, .int v, .int a, .int b, .int d] (fun U => XR g ad σ u τ U.heap ∧ EV g lo U)) (QXM (exOf 1 2 4 (t_dye σ l v a b d)) (.returned (some (.int (σ 25 (ti v) + f_hours σ l)))) (fun H9 => XR g ad (F_dye σ l v a b d) (u_dye σ u l v a b d) τ H9) (xown ad σ)) (XX (exOf 1 2 4 (t_dye σ l v a b d))) 6 36 (fun q => lo ≤ q) := by
  refine vx_ofW (cc := cX6_dye) (maxL := 8) (ret := (some .int)) (by decide) rfl ?_
  intro p e s m args below meth c s₁ B hml ht hv
  obtain ⟨rfl, hX, hE⟩ := hv
  have hK := hE.1
  have hx := B.exec
  have hb := B.bytes
  have hr := B.returns
  have hts := atoms_spec (ws := wsX6_dye) B.pre
  have hown : s.vm.findClass RX6 = some m.cls := findClass_of_methodNamed B.named
  have hlocks := B.notSynchronized
  have hinX0 : ∀ w ∈ wsX00, w ∈ wsX6_dye := by decide +kernel
  have hinX5 : ∀ w ∈ wsX50, w ∈ wsX6_dye := by decide +kernel
  have lk134 := hts (.fieldLink RX6 134 "DyehouseLedger$Vat" "light" "I") (by decide +kernel)
  have lk137 := hts (.fieldLink RX6 137 "DyehouseLedger$Vat" "clock" "I") (by decide +kernel)
  have lk140 := hts (.fieldLink RX6 140 "DyehouseLedger$Lot" "shade" "LDyehouseLedger$Shade;") (by decide +kernel)
  have lk147 := hts (.fieldLink RX6 147 "DyehouseLedger$Lot" "state" "C") (by decide +kernel)
  have lk151 := hts (.fieldLink RX6 151 "DyehouseLedger$Lot" "vat" "LDyehouseLedger$Vat;") (by decide +kernel)
  have lk155 := hts (.fieldLink RX6 155 "DyehouseLedger$Lot" "clockThen" "I") (by decide +kernel)
  have lk158 := hts (.fieldLink RX6 158 "DyehouseLedger$Vat" "cleanings" "I") (by decide +kernel)
  have lk161 := hts (.fieldLink RX6 161 "DyehouseLedger$Lot" "cleaningsThen" "I") (by decide +kernel)
  have lk164 := hts (.fieldLink RX6 164 "DyehouseLedger$Lot" "plannedFor" "LDyehouseLedger$Vat;") (by decide +kernel)
  have ti4 := hts (.initialized "java/lang/UnsupportedOperationException") (by decide +kernel)
  have tk4 := hts (.classLink RX6 127 "java/lang/UnsupportedOperationException") (by decide +kernel)
  have tw4 : ∀ w ∈ (vx_at0 RX6 129 (en 4) exN).filter goodWord, w.before _ s = true := fun w h => hts w (tw_inX6_dye_4 w h)
  have hl := lv_entry ([.ref (ad 0 0), .int l, .int v, .int a, .int b, .int d]) (n := 8) (Nat.le_of_ble_eq_true rfl)
  rw [lg_entry_eq]
  generalize (lg_sl ([.ref (ad 0 0), .int l, .int v, .int a, .int b, .int d]) ++ List.replicate (8 - (lg_sl ([.ref (ad 0 0), .int l, .int v, .int a, .int b, .int d])).length) Slot.unset).toArray = ls at hl ⊢
  have hl : lv_has ls 8 [(0, .ref (ad 0 0)), (1, .int l), (2, .int v), (3, .int a), (4, .int b), (5, .int d)] := hl
  have hbL := hI.l.1
  have hbO := hI.o.1
  have hbV := hI.v.1
  by_cases kl9 : okL σ l
  · obtain ⟨i, hi, rfl⟩ := vp_in_of ((okL_in hI l).mp kl9) (Nat.lt_of_le_of_lt hI.l.1 (by decide))
    have hbi : nL σ ≤ _ := hI.l.1
    have eti : ti (nI i) = i := ti_nI (by omega)
    by_cases kv9 : okV σ v
    · obtain ⟨w, hw, rfl⟩ := vp_in_of ((okV_in hI v).mp kv9) (Nat.lt_of_le_of_lt hI.v.1 (by decide))
      have hbw : nV σ ≤ _ := hI.v.1
      have etw : ti (nI w) = w := ti_nI (by omega)
      refine lv_aload_n hx hb dX6_dye_0 rfl (lv_at hl 0 rfl) ?_
      refine lv_iload_n hx hb dX6_dye_1 rfl (lv_at hl 1 rfl) ?_
      refine xc_v (n := 1) (As := [.int (nI i)]) (rest := []) (v := [.ref (ad 16 i)]) ⟨hx, hb, hml, hown, hts⟩ hE hX ht hlocks (fun q => absurd (show eL σ (nI i) = 0 from if_pos kl9) q) (qX6_lotNumbered la hst g lo ad σ u τ hI (nI i)) gX6_dye_X6_lotNumbered rfl rfl rfl (by decide +kernel) ⟨Nat.le_of_ble_eq_true rfl, Nat.le_of_ble_eq_true rfl⟩ rfl hl.1 rfl (Nat.le_of_ble_eq_true rfl) dX6_dye_2 ⟨Nat.le_of_ble_eq_true rfl, Nat.le_of_ble_eq_true rfl⟩ ⟨Nat.le_of_ble_eq_true rfl, Nat.le_of_ble_eq_true rfl⟩ (fun _ => congrArg (fun z => [Value.ref (ad 16 z)]) (ti_nI (by omega))) (fun h_1 => ?_)
      refine lv_astore (lv' := [(6, .ref (ad 16 i)), (0, .ref (ad 0 0)), (1, .int (nI i)), (2, .int (nI w)), (3, .int a), (4, .int b), (5, .int d)]) hx hb dX6_dye_5 hl (by decide) rfl (fun ls hl => ?_)
      refine lv_aload_n hx hb dX6_dye_7 rfl (lv_at hl 1 rfl) ?_
      refine lv_iload_n hx hb dX6_dye_8 rfl (lv_at hl 3 rfl) ?_
      refine xc_v (n := 1) (As := [.int (nI w)]) (rest := []) (v := [.ref (ad 18 w)]) ⟨hx, hb, hml, hown, hts⟩ hE hX ht hlocks (fun q => absurd (show eV σ (nI w) = 0 from if_pos kv9) q) (qX6_vatNumbered la hst g lo ad σ u τ hI (nI w)) gX6_dye_X6_vatNumbered rfl rfl rfl (by decide +kernel) ⟨Nat.le_of_ble_eq_true rfl, Nat.le_of_ble_eq_true rfl⟩ rfl hl.1 rfl (Nat.le_of_ble_eq_true rfl) dX6_dye_9 ⟨Nat.le_of_ble_eq_true rfl, Nat.le_of_ble_eq_true rfl⟩ ⟨Nat.le_of_ble_eq_true rfl, Nat.le_of_ble_eq_true rfl⟩ (fun _ => congrArg (fun z => [Value.ref (ad 18 z)]) (ti_nI (by omega))) (fun h_2 => ?_)
      refine lv_astore (lv' := [(7, .ref (ad 18 w)), (6, .ref (ad 16 i)), (0, .ref (ad 0 0)), (1, .int (nI i)), (2, .int (nI w)), (3, .int a), (4, .int b), (5, .int d)]) hx hb dX6_dye_12 hl (by decide) rfl (fun ls hl => ?_)
      refine lv_iload_n hx hb dX6_dye_14 rfl (lv_at hl 5 rfl) ?_
      refine lv_iload hx hb dX6_dye_15 (lv_at hl 6 rfl) ?_
      refine lv_iload hx hb dX6_dye_17 (lv_at hl 7 rfl) ?_
      refine xc_s (n := 3) (As := [.int a, .int b, .int d]) (rest := []) (v := []) ⟨hx, hb, hml, hown, hts⟩ hE ht hlocks (fun q => by have h9 : ¬ (shP a b d) := fun z => q (show eSh a b d = 0 from if_pos z); exact (show (exOf 1 2 4 (t_dye σ (nI i) (nI w) a b d)) = 2 from by rw [show (t_dye σ (nI i) (nI w) a b d) = 2 from (by simp only [tD, tL, tV, tO, tW, tLV, tN, t_setDye, t_supply, t_plan, t_unplan, t_dye, okW, eti, etw]; (repeat' split) <;> first | rfl | contradiction | (exfalso; simp_all [-Int32.not_lt, -Int32.not_le]; done))]; rfl).trans (show eSh a b d = 2 from if_neg h9).symm) (qX6_checkShade la hst g lo a b d) gX6_dye_X6_checkShade rfl rfl rfl (by decide +kernel) ⟨Nat.le_of_ble_eq_true rfl, Nat.le_of_ble_eq_true rfl⟩ rfl hl.1 rfl (Nat.le_of_ble_eq_true rfl) dX6_dye_19 ⟨Nat.le_of_ble_eq_true rfl, Nat.le_of_ble_eq_true rfl⟩ ⟨Nat.le_of_ble_eq_true rfl, Nat.le_of_ble_eq_true rfl⟩ (fun _ => rfl) (fun h_4 => ?_)
      have kc_3 : shP a b d := Decidable.byContradiction fun z => absurd (show eSh a b d = 0 from h_4) (by rw [show eSh a b d = 2 from if_neg z]; decide)
      refine lv_aload_n hx hb dX6_dye_22 rfl (lv_at hl 2 rfl) ?_
      refine lv_aload hx hb dX6_dye_23 (lv_at hl 1 rfl) ?_
      refine lv_aload hx hb dX6_dye_25 (lv_at hl 0 rfl) ?_
      refine xc_ro (n := 2) (K := 0) (i := 0) (As := [.ref (ad 16 i), .ref (ad 18 w)]) (rest := []) (v := [.int (f_why σ (nI i) (nI w))]) ⟨hx, hb, hml, hown, hts⟩ hK hX (show 0 < 1 from Nat.zero_lt_one) rfl rfl (qX6_reasonAgainst la g ad σ u τ hI i hi w hw) gX6_dye_X6_reasonAgainst rfl rfl rfl (by decide +kernel) ⟨Nat.le_of_ble_eq_true rfl, Nat.le_of_ble_eq_true rfl⟩ rfl hl.1 rfl (Nat.le_of_ble_eq_true rfl) dX6_dye_27 ⟨Nat.le_of_ble_eq_true rfl, Nat.le_of_ble_eq_true rfl⟩ rfl ?_
      refine lv_bipush (v := 45) hx hb dX6_dye_30 (by decide) ?_
      refine lv_icmp_eq (tgt := 43) hx hb dX6_dye_32 (by decide) (fun c_5 => ?_) (fun c_5 => ?_)
      · refine lv_aload_n hx hb dX6_dye_43 rfl (lv_at hl 2 rfl) ?_
        refine lv_aload hx hb dX6_dye_44 (lv_at hl 1 rfl) ?_
        have hS := XS.start (lo := lo) (XR.t0 hX 0)
        have hX := hS.1
        refine xc_mu (n := 1) (K := 0) (i := 0) (As := [.ref (ad 16 i)]) (rest := []) (v := []) ⟨hx, hb, hml, hown, hts⟩ hK hS (show 0 < 1 from Nat.zero_lt_one) rfl rfl (qX6_takeDyesFor la g lo ad (up σ 0 0 0) u τ hA (hI.u0 0 _) i hi) gX6_dye_X6_takeDyesFor rfl rfl rfl (by decide +kernel) ⟨Nat.le_of_ble_eq_true rfl, Nat.le_of_ble_eq_true rfl⟩ rfl hl.1 rfl (Nat.le_of_ble_eq_true rfl) dX6_dye_46 ⟨Nat.le_of_ble_eq_true rfl, Nat.le_of_ble_eq_true rfl⟩ rfl rfl (fun H1 locs1 hS => ?_)
        replace hS : XS g lo ad (up (up (up (up σ 0 0 0) 7 0 (σ 7 0 - (f_needed σ (nI i) 0))) 7 1 (σ 7 1 - (f_needed σ (nI i) 1))) 7 2 (σ 7 2 - (f_needed σ (nI i) 2))) (vp_updL (vp_updL (vp_updL u 0 (u 0 + (f_needed σ (nI i) 0).toInt64)) 1 (u 1 + (f_needed σ (nI i) 1).toInt64)) 2 (u 2 + (f_needed σ (nI i) 2).toInt64)) τ s.heap H1 locs1 := hS
        have hX := hS.1
        refine lv_aload hx hb dX6_dye_49 (lv_at hl 0 rfl) ?_
        refine lv_iload_n hx hb dX6_dye_51 rfl (lv_at hl 5 rfl) ?_
        refine sp_put (ref := RX5) (C := RX5) (T := TX5) (N := 6) (ci := 7) (ty := .int) (v := .int a) hx hb hts hinX5 tyX5 tyX5_ok nmX5 hown hK (show va_at g.1 vwCl (ad 18 w, .inr (7, _)) _ from hX 18 w hw) rfl 2 (by decide) lk134 (fun _ h => h) rfl (by decide +kernel) rfl rfl (show 2 < 6 from by decide) dX6_dye_52 (fun H1 j1 h1 h2 h3 => ?_)
        have hS := hS.upd hA (K := 18) (i := w) hw (σ' := (up (up (up (up (up σ 0 0 0) 7 0 (σ 7 0 - (f_needed σ (nI i) 0))) 7 1 (σ 7 1 - (f_needed σ (nI i) 1))) 7 2 (σ 7 2 - (f_needed σ (nI i) 2))) 23 w a)) (u' := (vp_updL (vp_updL (vp_updL u 0 (u 0 + (f_needed σ (nI i) 0).toInt64)) 1 (u 1 + (f_needed σ (nI i) 1).toInt64)) 2 (u 2 + (f_needed σ (nI i) 2).toInt64))) (τ' := τ) h1 h2 h3 (loc1 (j := j1)) (xcnt_up _ (by decide) _ _) (by simp [xcont, up, upd, va_rf, eti, etw]) (fun K9 i9 hi9 hne => cont_vat g.2 ad (fun k9 j9 hn => up_off _ _ (by omega)) hne)
        have hX := hS.1
        refine lv_aload hx hb dX6_dye_55 (lv_at hl 0 rfl) ?_
        refine lv_dup hx hb dX6_dye_57 rfl ?_
        refine x_get (K := 18) (i := w) (v := .int (σ 25 w)) hx hb hts hinX5 hown hK hX hw 4 rfl rfl (by decide) rfl lk137 (by first | rfl | (simp [up, upd]; done)) dX6_dye_58 ?_
        refine lv_aload hx hb dX6_dye_61 (lv_at hl 1 rfl) ?_
        refine xc_ro (n := 0) (K := 16) (i := i) (As := []) (rest := [.int (σ 25 w), .ref (ad 18 w)]) (v := [.int (f_hours σ (nI i))]) ⟨hx, hb, hml, hown, hts⟩ hK hX hi rfl rfl (qX0_dyeingHours la g ad (up (up (up (up (up σ 0 0 0) 7 0 (σ 7 0 - (f_needed σ (nI i) 0))) 7 1 (σ 7 1 - (f_needed σ (nI i) 1))) 7 2 (σ 7 2 - (f_needed σ (nI i) 2))) 23 w a) (vp_updL (vp_updL (vp_updL u 0 (u 0 + (f_needed σ (nI i) 0).toInt64)) 1 (u 1 + (f_needed σ (nI i) 1).toInt64)) 2 (u 2 + (f_needed σ (nI i) 2).toInt64)) τ (((((hI.u0 0 _).u7 0 _).u7 1 _).u7 2 _).u23 w _) i hi) gX6_dye_X0_dyeingHours rfl rfl rfl (by decide +kernel) ⟨Nat.le_of_ble_eq_true rfl, Nat.le_of_ble_eq_true rfl⟩ rfl hl.1 rfl (Nat.le_of_ble_eq_true rfl) dX6_dye_63 ⟨Nat.le_of_ble_eq_true rfl, Nat.le_of_ble_eq_true rfl⟩ (by simp only [needed_up7, needed_up0, hours_up0, hours_up7, hours_up23, Option.toList_some]) ?_
        refine lv_iadd hx hb dX6_dye_66 ?_
        refine sp_put (ref := RX5) (C := RX5) (T := TX5) (N := 6) (ci := 7) (ty := .int) (v := .int ((σ 25 w) + (f_hours σ (nI i)))) hx hb hts hinX5 tyX5 tyX5_ok nmX5 hown hK (show va_at g.1 vwCl (ad 18 w, .inr (7, _)) _ from hX 18 w hw) rfl 4 (by decide) lk137 (fun _ h => h) rfl (by decide +kernel) rfl rfl (show 4 < 6 from by decide) dX6_dye_67 (fun H1 j1 h1 h2 h3 => ?_)
        have hS := hS.upd hA (K := 18) (i := w) hw (σ' := (up (up (up (up (up (up σ 0 0 0) 7 0 (σ 7 0 - (f_needed σ (nI i) 0))) 7 1 (σ 7 1 - (f_needed σ (nI i) 1))) 7 2 (σ 7 2 - (f_needed σ (nI i) 2))) 23 w a) 25 w ((σ 25 w) + (f_hours σ (nI i))))) (u' := (vp_updL (vp_updL (vp_updL u 0 (u 0 + (f_needed σ (nI i) 0).toInt64)) 1 (u 1 + (f_needed σ (nI i) 1).toInt64)) 2 (u 2 + (f_needed σ (nI i) 2).toInt64))) (τ' := τ) h1 h2 h3 (loc1 (j := j1)) (xcnt_up _ (by decide) _ _) (by simp [xcont, up, upd, va_rf, eti, etw]) (fun K9 i9 hi9 hne => cont_vat g.2 ad (fun k9 j9 hn => up_off _ _ (by omega)) hne)
        have hX := hS.1
        refine lv_aload hx hb dX6_dye_70 (lv_at hl 1 rfl) ?_
        refine x_get (K := 16) (i := i) (v := .ref (ad 17 i)) hx hb hts hinX0 hown hK hX hi 3 rfl rfl (by decide) rfl lk140 (by first | rfl | (simp [up, upd]; done)) dX6_dye_72 ?_
        refine lv_iload_n hx hb dX6_dye_75 rfl (lv_at hl 5 rfl) ?_
        refine lv_iload hx hb dX6_dye_76 (lv_at hl 6 rfl) ?_
        refine lv_iload hx hb dX6_dye_78 (lv_at hl 7 rfl) ?_
        refine xc_mu (n := 3) (K := 17) (i := i) (As := [.int a, .int b, .int d]) (rest := []) (v := []) ⟨hx, hb, hml, hown, hts⟩ hK hS hi rfl rfl (qX4_set la g lo ad (up (up (up (up (up (up σ 0 0 0) 7 0 (σ 7 0 - (f_needed σ (nI i) 0))) 7 1 (σ 7 1 - (f_needed σ (nI i) 1))) 7 2 (σ 7 2 - (f_needed σ (nI i) 2))) 23 w a) 25 w ((σ 25 w) + (f_hours σ (nI i)))) (vp_updL (vp_updL (vp_updL u 0 (u 0 + (f_needed σ (nI i) 0).toInt64)) 1 (u 1 + (f_needed σ (nI i) 1).toInt64)) 2 (u 2 + (f_needed σ (nI i) 2).toInt64)) τ hA i hi a b d) gX6_dye_X4_set rfl rfl rfl (by decide +kernel) ⟨Nat.le_of_ble_eq_true rfl, Nat.le_of_ble_eq_true rfl⟩ rfl hl.1 rfl (Nat.le_of_ble_eq_true rfl) dX6_dye_80 ⟨Nat.le_of_ble_eq_true rfl, Nat.le_of_ble_eq_true rfl⟩ rfl rfl (fun H1 locs1 hS => ?_)
        replace hS : XS g lo ad (up (up (up (up (up (up (up (up (up σ 0 0 0) 7 0 (σ 7 0 - (f_needed σ (nI i) 0))) 7 1 (σ 7 1 - (f_needed σ (nI i) 1))) 7 2 (σ 7 2 - (f_needed σ (nI i) 2))) 23 w a) 25 w ((σ 25 w) + (f_hours σ (nI i)))) 16 (3 * i) a) 16 (3 * i + 1) b) 16 (3 * i + 2) d) (vp_updL (vp_updL (vp_updL u 0 (u 0 + (f_needed σ (nI i) 0).toInt64)) 1 (u 1 + (f_needed σ (nI i) 1).toInt64)) 2 (u 2 + (f_needed σ (nI i) 2).toInt64)) τ s.heap H1 locs1 := hS
        have hX := hS.1
        refine lv_aload hx hb dX6_dye_83 (lv_at hl 1 rfl) ?_
        refine lv_bipush (v := 100) hx hb dX6_dye_85 (by decide) ?_
        refine sp_put (ref := RX0) (C := RX0) (T := TX0) (N := 9) (ci := 2) (ty := .char) (v := .int 100) hx hb hts hinX0 tyX0 tyX0_ok nmX0 hown hK (show va_at g.1 vwCl (ad 16 i, .inr (2, _)) _ from hX 16 i hi) rfl 4 (by decide) lk147 (fun _ h => h) rfl (by decide +kernel) rfl rfl (show 4 < 9 from by decide) dX6_dye_87 (fun H1 j1 h1 h2 h3 => ?_)
        refine lv_aload hx hb dX6_dye_90 (lv_at hl 1 rfl) ?_
        refine lv_aload hx hb dX6_dye_92 (lv_at hl 0 rfl) ?_
        refine sp_put (ref := RX0) (C := RX0) (T := TX0) (N := 9) (ci := 2) (ty := (.object "DyehouseLedger$Vat")) (v := .ref (ad 18 w)) hx hb hts hinX0 tyX0 tyX0_ok nmX0 hown hK (show va_at g.1 vwCl (ad 16 i, .inr (2, _)) _ from h1) rfl 5 (by decide) lk151 (fun _ h => h) rfl (by decide +kernel) rfl rfl (show 5 < 9 from by decide) dX6_dye_94 (fun H1 j2 g1 g2 g3 => ?_)
        have hS := hS.upd hA (K := 16) (i := i) hi (σ' := (up (up (up (up (up (up (up (up (up (up (up σ 0 0 0) 7 0 (σ 7 0 - (f_needed σ (nI i) 0))) 7 1 (σ 7 1 - (f_needed σ (nI i) 1))) 7 2 (σ 7 2 - (f_needed σ (nI i) 2))) 23 w a) 25 w ((σ 25 w) + (f_hours σ (nI i)))) 16 (3 * i) a) 16 (3 * i + 1) b) 16 (3 * i + 2) d) 21 i 100) 17 i (nI w))) (u' := (vp_updL (vp_updL (vp_updL u 0 (u 0 + (f_needed σ (nI i) 0).toInt64)) 1 (u 1 + (f_needed σ (nI i) 1).toInt64)) 2 (u 2 + (f_needed σ (nI i) 2).toInt64))) (τ' := τ) g1 (g2.trans h2) (fun q hq => (g3 q hq).trans (h3 q hq)) (loc2 (j := j1) (k := j2)) ((xcnt_up _ (by decide) _ _).trans (xcnt_up _ (by decide) _ _)) (by simp [xcont, up, upd, va_rf, eti, etw]) (fun K9 i9 hi9 hne => cont_lot g.2 ad (fun k9 j9 hn => (up_off _ _ (by omega)).trans (up_off _ _ (by omega))) hne)
        have hX := hS.1
        refine lv_aload hx hb dX6_dye_97 (lv_at hl 1 rfl) ?_
        refine lv_aload hx hb dX6_dye_99 (lv_at hl 0 rfl) ?_
        refine x_get (K := 18) (i := w) (v := .int ((σ 25 w) + (f_hours σ (nI i)))) hx hb hts hinX5 hown hK hX hw 4 rfl rfl (by decide) rfl lk137 (by first | rfl | (simp [up, upd]; done)) dX6_dye_101 ?_
        refine sp_put (ref := RX0) (C := RX0) (T := TX0) (N := 9) (ci := 2) (ty := .int) (v := .int ((σ 25 w) + (f_hours σ (nI i)))) hx hb hts hinX0 tyX0 tyX0_ok nmX0 hown hK (show va_at g.1 vwCl (ad 16 i, .inr (2, _)) _ from hX 16 i hi) rfl 6 (by decide) lk155 (fun _ h => h) rfl (by decide +kernel) rfl rfl (show 6 < 9 from by decide) dX6_dye_104 (fun H1 j1 h1 h2 h3 => ?_)
        have hS := hS.upd hA (K := 16) (i := i) hi (σ' := (up (up (up (up (up (up (up (up (up (up (up (up σ 0 0 0) 7 0 (σ 7 0 - (f_needed σ (nI i) 0))) 7 1 (σ 7 1 - (f_needed σ (nI i) 1))) 7 2 (σ 7 2 - (f_needed σ (nI i) 2))) 23 w a) 25 w ((σ 25 w) + (f_hours σ (nI i)))) 16 (3 * i) a) 16 (3 * i + 1) b) 16 (3 * i + 2) d) 21 i 100) 17 i (nI w)) 18 i ((σ 25 w) + (f_hours σ (nI i))))) (u' := (vp_updL (vp_updL (vp_updL u 0 (u 0 + (f_needed σ (nI i) 0).toInt64)) 1 (u 1 + (f_needed σ (nI i) 1).toInt64)) 2 (u 2 + (f_needed σ (nI i) 2).toInt64))) (τ' := τ) h1 h2 h3 (loc1 (j := j1)) (xcnt_up _ (by decide) _ _) (by simp [xcont, up, upd, va_rf, eti, etw]) (fun K9 i9 hi9 hne => cont_lot g.2 ad (fun k9 j9 hn => up_off _ _ (by omega)) hne)
        have hX := hS.1
        refine lv_aload hx hb dX6_dye_107 (lv_at hl 1 rfl) ?_
        refine lv_aload hx hb dX6_dye_109 (lv_at hl 0 rfl) ?_
        refine x_get (K := 18) (i := w) (v := .int (σ 26 w)) hx hb hts hinX5 hown hK hX hw 5 rfl rfl (by decide) rfl lk158 (by first | rfl | (simp [up, upd]; done)) dX6_dye_111 ?_
        refine sp_put (ref := RX0) (C := RX0) (T := TX0) (N := 9) (ci := 2) (ty := .int) (v := .int (σ 26 w)) hx hb hts hinX0 tyX0 tyX0_ok nmX0 hown hK (show va_at g.1 vwCl (ad 16 i, .inr (2, _)) _ from hX 16 i hi) rfl 7 (by decide) lk161 (fun _ h => h) rfl (by decide +kernel) rfl rfl (show 7 < 9 from by decide) dX6_dye_114 (fun H1 j1 h1 h2 h3 => ?_)
        have hS := hS.upd hA (K := 16) (i := i) hi (σ' := (up (up (up (up (up (up (up (up (up (up (up (up (up σ 0 0 0) 7 0 (σ 7 0 - (f_needed σ (nI i) 0))) 7 1 (σ 7 1 - (f_needed σ (nI i) 1))) 7 2 (σ 7 2 - (f_needed σ (nI i) 2))) 23 w a) 25 w ((σ 25 w) + (f_hours σ (nI i)))) 16 (3 * i) a) 16 (3 * i + 1) b) 16 (3 * i + 2) d) 21 i 100) 17 i (nI w)) 18 i ((σ 25 w) + (f_hours σ (nI i)))) 19 i (σ 26 w))) (u' := (vp_updL (vp_updL (vp_updL u 0 (u 0 + (f_needed σ (nI i) 0).toInt64)) 1 (u 1 + (f_needed σ (nI i) 1).toInt64)) 2 (u 2 + (f_needed σ (nI i) 2).toInt64))) (τ' := τ) h1 h2 h3 (loc1 (j := j1)) (xcnt_up _ (by decide) _ _) (by simp [xcont, up, upd, va_rf, eti, etw]) (fun K9 i9 hi9 hne => cont_lot g.2 ad (fun k9 j9 hn => up_off _ _ (by omega)) hne)
        have hX := hS.1
        refine lv_aload hx hb dX6_dye_117 (lv_at hl 1 rfl) ?_
        refine lv_null hx hb dX6_dye_119 ?_
        refine sp_put (ref := RX0) (C := RX0) (T := TX0) (N := 9) (ci := 2) (ty := (.object "DyehouseLedger$Vat")) (v := .null) hx hb hts hinX0 tyX0 tyX0_ok nmX0 hown hK (show va_at g.1 vwCl (ad 16 i, .inr (2, _)) _ from hX 16 i hi) rfl 8 (by decide) lk164 (fun _ h => h) rfl (by decide +kernel) rfl rfl (show 8 < 9 from by decide) dX6_dye_120 (fun H1 j1 h1 h2 h3 => ?_)
        have hS := hS.upd hA (K := 16) (i := i) hi (σ' := (up (up (up (up (up (up (up (up (up (up (up (up (up (up σ 0 0 0) 7 0 (σ 7 0 - (f_needed σ (nI i) 0))) 7 1 (σ 7 1 - (f_needed σ (nI i) 1))) 7 2 (σ 7 2 - (f_needed σ (nI i) 2))) 23 w a) 25 w ((σ 25 w) + (f_hours σ (nI i)))) 16 (3 * i) a) 16 (3 * i + 1) b) 16 (3 * i + 2) d) 21 i 100) 17 i (nI w)) 18 i ((σ 25 w) + (f_hours σ (nI i)))) 19 i (σ 26 w)) 20 i (-1))) (u' := (vp_updL (vp_updL (vp_updL u 0 (u 0 + (f_needed σ (nI i) 0).toInt64)) 1 (u 1 + (f_needed σ (nI i) 1).toInt64)) 2 (u 2 + (f_needed σ (nI i) 2).toInt64))) (τ' := τ) h1 h2 h3 (loc1 (j := j1)) (xcnt_up _ (by decide) _ _) (by simp [xcont, up, upd, va_rf, eti, etw]) (fun K9 i9 hi9 hne => cont_lot g.2 ad (fun k9 j9 hn => up_off _ _ (by omega)) hne)
        have hX := hS.1
        refine lv_aload hx hb dX6_dye_123 (lv_at hl 0 rfl) ?_
        refine x_get (K := 18) (i := w) (v := .int ((σ 25 w) + (f_hours σ (nI i)))) hx hb hts hinX5 hown hK hX hw 4 rfl rfl (by decide) rfl lk137 (by first | rfl | (simp [up, upd]; done)) dX6_dye_125 ?_
        have hS9 := hS.cg (show (up (up (up (up (up (up (up (up (up (up (up (up (up (up σ 0 0 0) 7 0 (σ 7 0 - (f_needed σ (nI i) 0))) 7 1 (σ 7 1 - (f_needed σ (nI i) 1))) 7 2 (σ 7 2 - (f_needed σ (nI i) 2))) 23 w a) 25 w ((σ 25 w) + (f_hours σ (nI i)))) 16 (3 * i) a) 16 (3 * i + 1) b) 16 (3 * i + 2) d) 21 i 100) 17 i (nI w)) 18 i ((σ 25 w) + (f_hours σ (nI i)))) 19 i (σ 26 w)) 20 i (-1)) = (F_dye σ (nI i) (nI w) a b d) from (by unfold F_dye; rw [if_pos (show (t_dye σ (nI i) (nI w) a b d) = 0 from (by simp only [tD, tL, tV, tO, tW, tLV, tN, t_setDye, t_supply, t_plan, t_unplan, t_dye, okW, eti, etw]; (repeat' split) <;> first | rfl | contradiction | (exfalso; simp_all [-Int32.not_lt, -Int32.not_le]; done)))]; exact dye_chain (by omega) (by omega))) (show _ = (u_dye σ u (nI i) (nI w) a b d) from (by unfold u_dye; rw [if_pos (show (t_dye σ (nI i) (nI w) a b d) = 0 from (by simp only [tD, tL, tV, tO, tW, tLV, tN, t_setDye, t_supply, t_plan, t_unplan, t_dye, okW, eti, etw]; (repeat' split) <;> first | rfl | contradiction | (exfalso; simp_all [-Int32.not_lt, -Int32.not_le]; done)))])) rfl
        refine vx_ret ?_
        refine W.widen (k := 6) (n := 36) (Nat.le_of_ble_eq_true rfl) (Nat.le_of_ble_eq_true rfl) ?_
        exact W.iret (v := ((σ 25 w) + (f_hours σ (nI i)))) hx hb hr (fun t ht9 hW => ⟨(show (exOf 1 2 4 (t_dye σ (nI i) (nI w) a b d)) = 0 from by rw [show (t_dye σ (nI i) (nI w) a b d) = 0 from (by simp only [tD, tL, tV, tO, tW, tLV, tN, t_setDye, t_supply, t_plan, t_unplan, t_dye, okW, eti, etw]; (repeat' split) <;> first | rfl | contradiction | (exfalso; simp_all [-Int32.not_lt, -Int32.not_le]; done))]; rfl), congrArg (fun z => Outcome.returned (some (Value.int z))) (by rw [etw]), by rw [ht9]; exact hS9.1, by rw [ht9]; exact Nat.le_of_eq hS.2.1.symm, fun q _ hq => by first | (rw [ht9]; done) | rw [ht9]; exact hS.2.2.1 q (fun z => hq (by first | exact z | (obtain ⟨K9, i9, a9, b9⟩ := z; refine ⟨K9, i9, ?_, b9⟩; split at a9 <;> exact a9)))⟩) hS.2.2.2 dX6_dye_128
      · exact x_throw (k9 := 4) (ic := 129) hx hb hst hown hE ht hlocks (hl.1.trans hml.symm) (fun _ _ _ => trivial) (by decide) tk4 ti4 tw4 bad4 good4 (by decide) (show (exOf 1 2 4 (t_dye σ (nI i) (nI w) a b d)) = 4 from by rw [show (t_dye σ (nI i) (nI w) a b d) = 3 from (by simp only [tD, tL, tV, tO, tW, tLV, tN, t_setDye, t_supply, t_plan, t_unplan, t_dye, okW, eti, etw]; (repeat' split) <;> first | rfl | contradiction | (exfalso; simp_all [-Int32.not_lt, -Int32.not_le]; done))]; rfl) dX6_dye_35 dX6_dye_38 dX6_dye_39 dX6_dye_42 (Nat.le_of_ble_eq_true rfl) (Nat.le_of_ble_eq_true rfl) (Nat.le_of_ble_eq_true rfl) (Nat.le_of_ble_eq_true rfl) (Nat.le_of_ble_eq_true rfl) (Nat.le_of_ble_eq_true rfl)
    · refine lv_aload_n hx hb dX6_dye_0 rfl (lv_at hl 0 rfl) ?_
      refine lv_iload_n hx hb dX6_dye_1 rfl (lv_at hl 1 rfl) ?_
      refine xc_v (n := 1) (As := [.int (nI i)]) (rest := []) (v := [.ref (ad 16 i)]) ⟨hx, hb, hml, hown, hts⟩ hE hX ht hlocks (fun q => absurd (show eL σ (nI i) = 0 from if_pos kl9) q) (qX6_lotNumbered la hst g lo ad σ u τ hI (nI i)) gX6_dye_X6_lotNumbered rfl rfl rfl (by decide +kernel) ⟨Nat.le_of_ble_eq_true rfl, Nat.le_of_ble_eq_true rfl⟩ rfl hl.1 rfl (Nat.le_of_ble_eq_true rfl) dX6_dye_2 ⟨Nat.le_of_ble_eq_true rfl, Nat.le_of_ble_eq_true rfl⟩ ⟨Nat.le_of_ble_eq_true rfl, Nat.le_of_ble_eq_true rfl⟩ (fun _ => congrArg (fun z => [Value.ref (ad 16 z)]) (ti_nI (by omega))) (fun h_7 => ?_)
      refine lv_astore (lv' := [(6, .ref (ad 16 i)), (0, .ref (ad 0 0)), (1, .int (nI i)), (2, .int v), (3, .int a), (4, .int b), (5, .int d)]) hx hb dX6_dye_5 hl (by decide) rfl (fun ls hl => ?_)
      refine lv_aload_n hx hb dX6_dye_7 rfl (lv_at hl 1 rfl) ?_
      refine lv_iload_n hx hb dX6_dye_8 rfl (lv_at hl 3 rfl) ?_
      refine xc_v (n := 1) (As := [.int v]) (rest := []) (v := [.ref (ad 18 (ti v))]) ⟨hx, hb, hml, hown, hts⟩ hE hX ht hlocks (fun _ => ((show (exOf 1 2 4 (t_dye σ (nI i) v a b d)) = 1 from by rw [show (t_dye σ (nI i) v a b d) = 1 from (by simp only [tD, tL, tV, tO, tW, tLV, tN, t_setDye, t_supply, t_plan, t_unplan, t_dye, okW, eti]; (repeat' split) <;> first | rfl | contradiction | (exfalso; simp_all [-Int32.not_lt, -Int32.not_le]; done))]; rfl)).trans (show eV σ v = 1 from if_neg kv9).symm) (qX6_vatNumbered la hst g lo ad σ u τ hI v) gX6_dye_X6_vatNumbered rfl rfl rfl (by decide +kernel) ⟨Nat.le_of_ble_eq_true rfl, Nat.le_of_ble_eq_true rfl⟩ rfl hl.1 rfl (Nat.le_of_ble_eq_true rfl) dX6_dye_9 ⟨Nat.le_of_ble_eq_true rfl, Nat.le_of_ble_eq_true rfl⟩ ⟨Nat.le_of_ble_eq_true rfl, Nat.le_of_ble_eq_true rfl⟩ (fun _ => rfl) (fun h_8 => ?_)
      exact absurd h_8 (by rw [show eV σ v = 1 from if_neg kv9]; decide)
  · refine lv_aload_n hx hb dX6_dye_0 rfl (lv_at hl 0 rfl) ?_
    refine lv_iload_n hx hb dX6_dye_1 rfl (lv_at hl 1 rfl) ?_
    refine xc_v (n := 1) (As := [.int l]) (rest := []) (v := [.ref (ad 16 (ti l))]) ⟨hx, hb, hml, hown, hts⟩ hE hX ht hlocks (fun _ => ((show (exOf 1 2 4 (t_dye σ l v a b d)) = 1 from by rw [show (t_dye σ l v a b d) = 1 from (by simp only [tD, tL, tV, tO, tW, tLV, tN, t_setDye, t_supply, t_plan, t_unplan, t_dye, okW]; (repeat' split) <;> first | rfl | contradiction | (exfalso; simp_all [-Int32.not_lt, -Int32.not_le]; done))]; rfl)).trans (show eL σ l = 1 from if_neg kl9).symm) (qX6_lotNumbered la hst g lo ad σ u τ hI l) gX6_dye_X6_lotNumbered rfl rfl rfl (by decide +kernel) ⟨Nat.le_of_ble_eq_true rfl, Nat.le_of_ble_eq_true rfl⟩ rfl hl.1 rfl (Nat.le_of_ble_eq_true rfl) dX6_dye_2 ⟨Nat.le_of_ble_eq_true rfl, Nat.le_of_ble_eq_true rfl⟩ ⟨Nat.le_of_ble_eq_true rfl, Nat.le_of_ble_eq_true rfl⟩ (fun _ => rfl) (fun h_10 => ?_)
    exact absurd h_10 (by rw [show eL σ l = 1 from if_neg kl9]; decide)
