set_option maxHeartbeats 4000000 in
set_option maxRecDepth 100000 in
theorem qL_addRecipe (la : Launch) (hst : la.stackTraces = false) (g : EG) (lo : Nat) (ad : Nat → Nat → Nat) (σ : Sg) (u : Nat → Int64) (τ : Sg) (hI : INV σ) (hA : XA lo ad σ) (ou : Nat) (hlo : lo ≤ ou) (hO : ¬ xown ad σ ou) (p0 p1 p2 : Int32) : Met la yL_addRecipe wsL_addRecipe ({ frames := 9, cells := 6, slots := 26, locals := 167 } : Room) (va_Pc [.ref (ad 0 0), .int p0, .int p1, .int p2, .ref ou] (fun U => XR g ad σ u τ U.heap ∧ OUTL g ou U.heap ∧ EL g lo U)) (QW ou (t_addRecipe σ p0 p1 p2) (fun H0 Hm => (XG g lo H0.size ad σ (F_addRecipe σ p0 p1 p2) u τ Hm) ∧ H0.size ≤ Hm.size ∧ ∀ q, q < H0.size → ¬ xown ad σ q → Hm[q]? = H0[q]?) (ANL g ou ((σ 1 0).toInt64))) 6 26 (fun q => lo ≤ q) := by
  refine met_ofWH (cc := cL_addRecipe) (maxL := 6) (ret := (some .int)) (by decide) rfl ?_
  intro p e s m args below meth c s₁ B hml hv
  obtain ⟨rfl, hX, ⟨f9, hof⟩, hE⟩ := hv
  have hK := hE.1.1.1
  have hx := B.exec
  have hb := B.bytes
  have hr := B.returns
  have hts := atoms_spec (ws := wsL_addRecipe) B.pre
  have hown : s.vm.findClass RL = some m.cls := findClass_of_methodNamed B.named
  have hlocks := B.notSynchronized
  have htab : c.exceptionTable.toList = [⟨0, 12, 15, 13⟩, ⟨0, 12, 19, 15⟩] := vx_table (x := yL_addRecipe) B (hts (.codeWith yL_addRecipe cL_addRecipe 6 (some .int) [(0, 12, 15, 13), (0, 12, 19, 15)]) List.mem_cons_self)
  have ck13 := hts (.classLink RL 13 (en 2)) (by decide +kernel)
  have ck15 := hts (.classLink RL 15 (en 3)) (by decide +kernel)
  have hl := lv_entry ([.ref (ad 0 0), .int p0, .int p1, .int p2, .ref ou]) (n := 6) (Nat.le_of_ble_eq_true rfl)
  rw [lg_entry_eq]
  generalize (lg_sl ([.ref (ad 0 0), .int p0, .int p1, .int p2, .ref ou]) ++ List.replicate (6 - (lg_sl ([.ref (ad 0 0), .int p0, .int p1, .int p2, .ref ou])).length) Slot.unset).toArray = ls at hl ⊢
  have hl : lv_has ls 6 [(0, .ref (ad 0 0)), (1, .int p0), (2, .int p1), (3, .int p2), (4, .ref ou)] := hl
  refine lv_aload hx hb dL_addRecipe_0 (lv_at hl 4 rfl) ?_
  refine lv_iconst (v := 0) hx hb dL_addRecipe_2 (by decide) ?_
  refine lv_aload_n hx hb dL_addRecipe_3 rfl (lv_at hl 0 rfl) ?_
  refine lv_iload_n hx hb dL_addRecipe_4 rfl (lv_at hl 1 rfl) ?_
  refine lv_iload_n hx hb dL_addRecipe_5 rfl (lv_at hl 2 rfl) ?_
  refine lv_iload_n hx hb dL_addRecipe_6 rfl (lv_at hl 3 rfl) ?_
  refine xw_v (n := 3) (As := [.int p0, .int p1, .int p2]) (rest := [.int 0, .ref ou]) (G := (fun Hm => (XG g lo s.heap.size ad σ (F_addRecipe σ p0 p1 p2) u τ Hm) ∧ s.heap.size ≤ Hm.size ∧ ∀ q, q < s.heap.size → ¬ xown ad σ q → Hm[q]? = s.heap[q]?)) ⟨hx, hb, hml, hown, hts⟩ hE hX (qX6_addRecipe la hst g lo ad σ u τ hI hA s.heap.size p0 p1 p2) (fun U hU hEU => ⟨by rw [hU]; exact hX, hEU.1.1, by rw [hU]; exact Nat.le_refl _⟩) (fun U a g9 mk q => ⟨q.1, q.2.1.calling g9 mk a, q.2.2⟩) (fun a st oc t h0 hq => ⟨hq.1, hq.2.1, hq.2.2.1, by rw [← h0]; exact hq.2.2.2.1, fun q q1 q2 => by rw [← h0]; exact hq.2.2.2.2 q (by rw [h0]; exact q1) q2⟩) gL_addRecipe_X6_addRecipe rfl rfl rfl (by decide +kernel) ⟨Nat.le_of_ble_eq_true rfl, Nat.le_of_ble_eq_true rfl⟩ rfl hl.1 rfl (Nat.le_of_ble_eq_true rfl) dL_addRecipe_7 ⟨Nat.le_of_ble_eq_true rfl, Nat.le_of_ble_eq_true rfl⟩ (fun H1 L hex hG hL => ?_) (fun H1 L q9 ce hex hz ho hce hcv hcl hL => ?_)
  · have ht : (t_addRecipe σ p0 p1 p2) = 0 := exOfz (by decide) (tc_addRecipe σ p0 p1 p2) hex
    obtain ⟨hP, hgz, hk⟩ := hG
    have hof := hof.kept (hk _ hof.lt hO)
    refine lv_i2l hx hb dL_addRecipe_10 rfl ?_
    refine sp_last hx hb hK 2 hof rfl (vin_dec (by decide +kernel)) dL_addRecipe_11 (fun H2 j h1 h2 h3 => ?_)
    rw [show (0 : Int32).toNatClampNeg = 0 from ti_0] at h1
    refine lv_goto (tgt := 23) hx hb dL_addRecipe_12 (by decide) ?_
    refine lv_iconst (v := 0) hx hb dL_addRecipe_23 (by decide) ?_
    refine W.widen (k := 6) (n := 26) (Nat.le_of_ble_eq_true rfl) (Nat.le_of_ble_eq_true rfl) ?_
    exact W.iret (v := 0) hx hb hr (fun t ht9 hW => ⟨congrArg (fun z => Outcome.returned (some (Value.int z))) ht.symm, fun q => absurd ht q, fun _ => ⟨_, ⟨hP, hgz, hk⟩, by rw [ht9]; exact h2, fun q hq => by rw [ht9]; exact h3 q hq, by rw [ht9]; exact ⟨_, h1, pk_uLs⟩⟩⟩) (fun z hz => (List.mem_append.mp hz).elim (hL z) (fun h => by rw [List.mem_singleton.mp h]; exact hlo)) dL_addRecipe_24
  · rcases tc_addRecipe σ p0 p1 p2 with ht | ht | ⟨ht, hw9⟩ | ⟨ht, hw9⟩
    · exact absurd ht (exOf0 hex)
    · refine xw_c1 (i := 2) (ck := 13) hown htab hE.2 ⟨by decide, by decide⟩ (exOf1 ht) rfl ⟨rfl, by decide⟩ ck13 hce hcv hcl ?_
      refine lv_astore (lv' := [(5, .ref q9), (0, .ref (ad 0 0)), (1, .int p0), (2, .int p1), (3, .int p2), (4, .ref ou)]) hx hb dL_addRecipe_15 hl (by decide) rfl (fun ls hl => ?_)
      refine lv_iconst (v := 1) hx hb dL_addRecipe_17 (by decide) ?_
      refine W.widen (k := 6) (n := 26) (Nat.le_of_ble_eq_true rfl) (Nat.le_of_ble_eq_true rfl) ?_
      exact W.iret (v := 1) hx hb hr (fun t ht9 hW => ⟨congrArg (fun z => Outcome.returned (some (Value.int z))) ht.symm, fun _ => ⟨by rw [ht9]; exact hz, fun q hq => by rw [ht9]; exact ho q hq⟩, fun q => absurd (ht.symm.trans q) (by decide)⟩) hL dL_addRecipe_18
    · refine xw_c2 (i := 3) (j := 2) (ck := 15) (cj := 13) hown htab hE.2 ⟨by decide, by decide⟩ ⟨by decide, by decide⟩ (by decide) (exOf2 ht) rfl ⟨rfl, by decide⟩ ⟨rfl, by decide⟩ ck15 ck13 hce hcv hcl ?_
      refine lv_astore (lv' := [(5, .ref q9), (0, .ref (ad 0 0)), (1, .int p0), (2, .int p1), (3, .int p2), (4, .ref ou)]) hx hb dL_addRecipe_19 hl (by decide) rfl (fun ls hl => ?_)
      refine lv_iconst (v := 2) hx hb dL_addRecipe_21 (by decide) ?_
      refine W.widen (k := 6) (n := 26) (Nat.le_of_ble_eq_true rfl) (Nat.le_of_ble_eq_true rfl) ?_
      exact W.iret (v := 2) hx hb hr (fun t ht9 hW => ⟨congrArg (fun z => Outcome.returned (some (Value.int z))) ht.symm, fun _ => ⟨by rw [ht9]; exact hz, fun q hq => by rw [ht9]; exact ho q hq⟩, fun q => absurd (ht.symm.trans q) (by decide)⟩) hL dL_addRecipe_22
    · exact absurd rfl hw9
set_option maxHeartbeats 4000000 in
set_option maxRecDepth 100000 in
theorem qL_setDye (la : Launch) (hst : la.stackTraces = false) (g : EG) (lo : Nat) (ad : Nat → Nat → Nat) (σ : Sg) (u : Nat → Int64) (τ : Sg) (hI : INV σ) (hA : XA lo ad σ) (ou : Nat) (hlo : lo ≤ ou) (hO : ¬ xown ad σ ou) (p0 p1 p2 : Int32) : Met la yL_setDye wsL_setDye ({ frames := 9, cells := 3, slots := 18, locals := 167 } : Room) (va_Pc [.ref (ad 0 0), .int p0, .int p1, .int p2, .ref ou] (fun U => XR g ad σ u τ U.heap ∧ OUTL g ou U.heap ∧ EL g lo U)) (QW ou (t_setDye σ p0 p1 p2) (fun H0 Hm => (XR g ad (F_setDye σ p0 p1 p2) u τ Hm) ∧ H0.size ≤ Hm.size ∧ ∀ q, q < H0.size → ¬ xown ad σ q → Hm[q]? = H0[q]?) (ANL g ou ((σ 6 (ti (3 * p0 + p1))).toInt64))) 3 18 (fun q => lo ≤ q) := by
  refine met_ofWH (cc := cL_setDye) (maxL := 6) (ret := (some .int)) (by decide) rfl ?_
  intro p e s m args below meth c s₁ B hml hv
  obtain ⟨rfl, hX, ⟨f9, hof⟩, hE⟩ := hv
  have hK := hE.1.1.1
  have hx := B.exec
  have hb := B.bytes
  have hr := B.returns
  have hts := atoms_spec (ws := wsL_setDye) B.pre
  have hown : s.vm.findClass RL = some m.cls := findClass_of_methodNamed B.named
  have hlocks := B.notSynchronized
  have htab : c.exceptionTable.toList = [⟨0, 12, 15, 20⟩, ⟨0, 12, 19, 13⟩] := vx_table (x := yL_setDye) B (hts (.codeWith yL_setDye cL_setDye 6 (some .int) [(0, 12, 15, 20), (0, 12, 19, 13)]) List.mem_cons_self)
  have ck13 := hts (.classLink RL 13 (en 2)) (by decide +kernel)
  have ck20 := hts (.classLink RL 20 (en 1)) (by decide +kernel)
  have hl := lv_entry ([.ref (ad 0 0), .int p0, .int p1, .int p2, .ref ou]) (n := 6) (Nat.le_of_ble_eq_true rfl)
  rw [lg_entry_eq]
  generalize (lg_sl ([.ref (ad 0 0), .int p0, .int p1, .int p2, .ref ou]) ++ List.replicate (6 - (lg_sl ([.ref (ad 0 0), .int p0, .int p1, .int p2, .ref ou])).length) Slot.unset).toArray = ls at hl ⊢
  have hl : lv_has ls 6 [(0, .ref (ad 0 0)), (1, .int p0), (2, .int p1), (3, .int p2), (4, .ref ou)] := hl
  refine lv_aload hx hb dL_setDye_0 (lv_at hl 4 rfl) ?_
  refine lv_iconst (v := 0) hx hb dL_setDye_2 (by decide) ?_
  refine lv_aload_n hx hb dL_setDye_3 rfl (lv_at hl 0 rfl) ?_
  refine lv_iload_n hx hb dL_setDye_4 rfl (lv_at hl 1 rfl) ?_
  refine lv_iload_n hx hb dL_setDye_5 rfl (lv_at hl 2 rfl) ?_
  refine lv_iload_n hx hb dL_setDye_6 rfl (lv_at hl 3 rfl) ?_
  refine xw_v (n := 3) (As := [.int p0, .int p1, .int p2]) (rest := [.int 0, .ref ou]) (G := (fun Hm => (XR g ad (F_setDye σ p0 p1 p2) u τ Hm) ∧ s.heap.size ≤ Hm.size ∧ ∀ q, q < s.heap.size → ¬ xown ad σ q → Hm[q]? = s.heap[q]?)) ⟨hx, hb, hml, hown, hts⟩ hE hX (qX6_setDye la hst g lo ad σ u τ hI hA p0 p1 p2) (fun U hU hEU => ⟨by rw [hU]; exact hX, hEU.1.1⟩) (fun U a g9 mk q => ⟨q.1, q.2.calling g9 mk a⟩) (fun a st oc t h0 hq => ⟨hq.1, hq.2.1, hq.2.2.1, by rw [← h0]; exact hq.2.2.2.1, fun q q1 q2 => by rw [← h0]; exact hq.2.2.2.2 q (by rw [h0]; exact q1) q2⟩) gL_setDye_X6_setDye rfl rfl rfl (by decide +kernel) ⟨Nat.le_of_ble_eq_true rfl, Nat.le_of_ble_eq_true rfl⟩ rfl hl.1 rfl (Nat.le_of_ble_eq_true rfl) dL_setDye_7 ⟨Nat.le_of_ble_eq_true rfl, Nat.le_of_ble_eq_true rfl⟩ (fun H1 L hex hG hL => ?_) (fun H1 L q9 ce hex hz ho hce hcv hcl hL => ?_)
  · have ht : (t_setDye σ p0 p1 p2) = 0 := exOfz (by decide) (tc_setDye σ p0 p1 p2) hex
    obtain ⟨hP, hgz, hk⟩ := hG
    have hof := hof.kept (hk _ hof.lt hO)
    refine lv_i2l hx hb dL_setDye_10 rfl ?_
    refine sp_last hx hb hK 2 hof rfl (vin_dec (by decide +kernel)) dL_setDye_11 (fun H2 j h1 h2 h3 => ?_)
    rw [show (0 : Int32).toNatClampNeg = 0 from ti_0] at h1
    refine lv_goto (tgt := 23) hx hb dL_setDye_12 (by decide) ?_
    refine lv_iconst (v := 0) hx hb dL_setDye_23 (by decide) ?_
    refine W.widen (k := 3) (n := 18) (Nat.le_of_ble_eq_true rfl) (Nat.le_of_ble_eq_true rfl) ?_
    exact W.iret (v := 0) hx hb hr (fun t ht9 hW => ⟨congrArg (fun z => Outcome.returned (some (Value.int z))) ht.symm, fun q => absurd ht q, fun _ => ⟨_, ⟨hP, hgz, hk⟩, by rw [ht9]; exact h2, fun q hq => by rw [ht9]; exact h3 q hq, by rw [ht9]; exact ⟨_, h1, pk_uLs⟩⟩⟩) (fun z hz => (List.mem_append.mp hz).elim (hL z) (fun h => by rw [List.mem_singleton.mp h]; exact hlo)) dL_setDye_24
  · rcases tc_setDye σ p0 p1 p2 with ht | ht | ⟨ht, hw9⟩ | ⟨ht, hw9⟩
    · exact absurd ht (exOf0 hex)
    · refine xw_c1 (i := 1) (ck := 20) hown htab hE.2 ⟨by decide, by decide⟩ (exOf1 ht) rfl ⟨rfl, by decide⟩ ck20 hce hcv hcl ?_
      refine lv_astore (lv' := [(5, .ref q9), (0, .ref (ad 0 0)), (1, .int p0), (2, .int p1), (3, .int p2), (4, .ref ou)]) hx hb dL_setDye_15 hl (by decide) rfl (fun ls hl => ?_)
      refine lv_iconst (v := 1) hx hb dL_setDye_17 (by decide) ?_
      refine W.widen (k := 3) (n := 18) (Nat.le_of_ble_eq_true rfl) (Nat.le_of_ble_eq_true rfl) ?_
      exact W.iret (v := 1) hx hb hr (fun t ht9 hW => ⟨congrArg (fun z => Outcome.returned (some (Value.int z))) ht.symm, fun _ => ⟨by rw [ht9]; exact hz, fun q hq => by rw [ht9]; exact ho q hq⟩, fun q => absurd (ht.symm.trans q) (by decide)⟩) hL dL_setDye_18
    · refine xw_c2 (i := 2) (j := 1) (ck := 13) (cj := 20) hown htab hE.2 ⟨by decide, by decide⟩ ⟨by decide, by decide⟩ (by decide) (exOf2 ht) rfl ⟨rfl, by decide⟩ ⟨rfl, by decide⟩ ck13 ck20 hce hcv hcl ?_
      refine lv_astore (lv' := [(5, .ref q9), (0, .ref (ad 0 0)), (1, .int p0), (2, .int p1), (3, .int p2), (4, .ref ou)]) hx hb dL_setDye_19 hl (by decide) rfl (fun ls hl => ?_)
      refine lv_iconst (v := 2) hx hb dL_setDye_21 (by decide) ?_
      refine W.widen (k := 3) (n := 18) (Nat.le_of_ble_eq_true rfl) (Nat.le_of_ble_eq_true rfl) ?_
      exact W.iret (v := 2) hx hb hr (fun t ht9 hW => ⟨congrArg (fun z => Outcome.returned (some (Value.int z))) ht.symm, fun _ => ⟨by rw [ht9]; exact hz, fun q hq => by rw [ht9]; exact ho q hq⟩, fun q => absurd (ht.symm.trans q) (by decide)⟩) hL dL_setDye_22
    · exact absurd rfl hw9
set_option maxHeartbeats 4000000 in
set_option maxRecDepth 100000 in
theorem qL_supply (la : Launch) (hst : la.stackTraces = false) (g : EG) (lo : Nat) (ad : Nat → Nat → Nat) (σ : Sg) (u : Nat → Int64) (τ : Sg) (hI : INV σ) (hA : XA lo ad σ) (ou : Nat) (hlo : lo ≤ ou) (hO : ¬ xown ad σ ou) (p0 p1 : Int32) : Met la yL_supply wsL_supply ({ frames := 9, cells := 3, slots := 18, locals := 164 } : Room) (va_Pc [.ref (ad 0 0), .int p0, .int p1, .ref ou] (fun U => XR g ad σ u τ U.heap ∧ OUTL g ou U.heap ∧ EL g lo U)) (QW ou (t_supply σ p0 p1) (fun H0 Hm => (XR g ad (F_supply σ p0 p1) u τ Hm) ∧ H0.size ≤ Hm.size ∧ ∀ q, q < H0.size → ¬ xown ad σ q → Hm[q]? = H0[q]?) (ANL g ou ((σ 7 (ti p0) + p1).toInt64))) 3 18 (fun q => lo ≤ q) := by
  refine met_ofWH (cc := cL_supply) (maxL := 5) (ret := (some .int)) (by decide) rfl ?_
  intro p e s m args below meth c s₁ B hml hv
  obtain ⟨rfl, hX, ⟨f9, hof⟩, hE⟩ := hv
  have hK := hE.1.1.1
  have hx := B.exec
  have hb := B.bytes
  have hr := B.returns
  have hts := atoms_spec (ws := wsL_supply) B.pre
  have hown : s.vm.findClass RL = some m.cls := findClass_of_methodNamed B.named
  have hlocks := B.notSynchronized
  have htab : c.exceptionTable.toList = [⟨0, 10, 13, 13⟩, ⟨0, 10, 17, 15⟩] := vx_table (x := yL_supply) B (hts (.codeWith yL_supply cL_supply 5 (some .int) [(0, 10, 13, 13), (0, 10, 17, 15)]) List.mem_cons_self)
  have ck13 := hts (.classLink RL 13 (en 2)) (by decide +kernel)
  have ck15 := hts (.classLink RL 15 (en 3)) (by decide +kernel)
  have hl := lv_entry ([.ref (ad 0 0), .int p0, .int p1, .ref ou]) (n := 5) (Nat.le_of_ble_eq_true rfl)
  rw [lg_entry_eq]
  generalize (lg_sl ([.ref (ad 0 0), .int p0, .int p1, .ref ou]) ++ List.replicate (5 - (lg_sl ([.ref (ad 0 0), .int p0, .int p1, .ref ou])).length) Slot.unset).toArray = ls at hl ⊢
  have hl : lv_has ls 5 [(0, .ref (ad 0 0)), (1, .int p0), (2, .int p1), (3, .ref ou)] := hl
  refine lv_aload_n hx hb dL_supply_0 rfl (lv_at hl 3 rfl) ?_
  refine lv_iconst (v := 0) hx hb dL_supply_1 (by decide) ?_
  refine lv_aload_n hx hb dL_supply_2 rfl (lv_at hl 0 rfl) ?_
  refine lv_iload_n hx hb dL_supply_3 rfl (lv_at hl 1 rfl) ?_
  refine lv_iload_n hx hb dL_supply_4 rfl (lv_at hl 2 rfl) ?_
  refine xw_v (n := 2) (As := [.int p0, .int p1]) (rest := [.int 0, .ref ou]) (G := (fun Hm => (XR g ad (F_supply σ p0 p1) u τ Hm) ∧ s.heap.size ≤ Hm.size ∧ ∀ q, q < s.heap.size → ¬ xown ad σ q → Hm[q]? = s.heap[q]?)) ⟨hx, hb, hml, hown, hts⟩ hE hX (qX6_supply la hst g lo ad σ u τ hI hA p0 p1) (fun U hU hEU => ⟨by rw [hU]; exact hX, hEU.1.1⟩) (fun U a g9 mk q => ⟨q.1, q.2.calling g9 mk a⟩) (fun a st oc t h0 hq => ⟨hq.1, hq.2.1, hq.2.2.1, by rw [← h0]; exact hq.2.2.2.1, fun q q1 q2 => by rw [← h0]; exact hq.2.2.2.2 q (by rw [h0]; exact q1) q2⟩) gL_supply_X6_supply rfl rfl rfl (by decide +kernel) ⟨Nat.le_of_ble_eq_true rfl, Nat.le_of_ble_eq_true rfl⟩ rfl hl.1 rfl (Nat.le_of_ble_eq_true rfl) dL_supply_5 ⟨Nat.le_of_ble_eq_true rfl, Nat.le_of_ble_eq_true rfl⟩ (fun H1 L hex hG hL => ?_) (fun H1 L q9 ce hex hz ho hce hcv hcl hL => ?_)
  · have ht : (t_supply σ p0 p1) = 0 := exOfz (by decide) (tc_supply σ p0 p1) hex
    obtain ⟨hP, hgz, hk⟩ := hG
    have hof := hof.kept (hk _ hof.lt hO)
    refine lv_i2l hx hb dL_supply_8 rfl ?_
    refine sp_last hx hb hK 2 hof rfl (vin_dec (by decide +kernel)) dL_supply_9 (fun H2 j h1 h2 h3 => ?_)
    rw [show (0 : Int32).toNatClampNeg = 0 from ti_0] at h1
    refine lv_goto (tgt := 21) hx hb dL_supply_10 (by decide) ?_
    refine lv_iconst (v := 0) hx hb dL_supply_21 (by decide) ?_
    refine W.widen (k := 3) (n := 18) (Nat.le_of_ble_eq_true rfl) (Nat.le_of_ble_eq_true rfl) ?_
    exact W.iret (v := 0) hx hb hr (fun t ht9 hW => ⟨congrArg (fun z => Outcome.returned (some (Value.int z))) ht.symm, fun q => absurd ht q, fun _ => ⟨_, ⟨hP, hgz, hk⟩, by rw [ht9]; exact h2, fun q hq => by rw [ht9]; exact h3 q hq, by rw [ht9]; exact ⟨_, h1, pk_uLs⟩⟩⟩) (fun z hz => (List.mem_append.mp hz).elim (hL z) (fun h => by rw [List.mem_singleton.mp h]; exact hlo)) dL_supply_22
  · rcases tc_supply σ p0 p1 with ht | ht | ⟨ht, hw9⟩ | ⟨ht, hw9⟩
    · exact absurd ht (exOf0 hex)
    · refine xw_c1 (i := 2) (ck := 13) hown htab hE.2 ⟨by decide, by decide⟩ (exOf1 ht) rfl ⟨rfl, by decide⟩ ck13 hce hcv hcl ?_
      refine lv_astore (lv' := [(4, .ref q9), (0, .ref (ad 0 0)), (1, .int p0), (2, .int p1), (3, .ref ou)]) hx hb dL_supply_13 hl (by decide) rfl (fun ls hl => ?_)
      refine lv_iconst (v := 1) hx hb dL_supply_15 (by decide) ?_
      refine W.widen (k := 3) (n := 18) (Nat.le_of_ble_eq_true rfl) (Nat.le_of_ble_eq_true rfl) ?_
      exact W.iret (v := 1) hx hb hr (fun t ht9 hW => ⟨congrArg (fun z => Outcome.returned (some (Value.int z))) ht.symm, fun _ => ⟨by rw [ht9]; exact hz, fun q hq => by rw [ht9]; exact ho q hq⟩, fun q => absurd (ht.symm.trans q) (by decide)⟩) hL dL_supply_16
    · refine xw_c2 (i := 3) (j := 2) (ck := 15) (cj := 13) hown htab hE.2 ⟨by decide, by decide⟩ ⟨by decide, by decide⟩ (by decide) (exOf2 ht) rfl ⟨rfl, by decide⟩ ⟨rfl, by decide⟩ ck15 ck13 hce hcv hcl ?_
      refine lv_astore (lv' := [(4, .ref q9), (0, .ref (ad 0 0)), (1, .int p0), (2, .int p1), (3, .ref ou)]) hx hb dL_supply_17 hl (by decide) rfl (fun ls hl => ?_)
      refine lv_iconst (v := 2) hx hb dL_supply_19 (by decide) ?_
      refine W.widen (k := 3) (n := 18) (Nat.le_of_ble_eq_true rfl) (Nat.le_of_ble_eq_true rfl) ?_
      exact W.iret (v := 2) hx hb hr (fun t ht9 hW => ⟨congrArg (fun z => Outcome.returned (some (Value.int z))) ht.symm, fun _ => ⟨by rw [ht9]; exact hz, fun q hq => by rw [ht9]; exact ho q hq⟩, fun q => absurd (ht.symm.trans q) (by decide)⟩) hL dL_supply_20
    · exact absurd rfl hw9
set_option maxHeartbeats 4000000 in
set_option maxRecDepth 100000 in
theorem qL_stock (la : Launch) (hst : la.stackTraces = false) (g : EG) (lo : Nat) (ad : Nat → Nat → Nat) (σ : Sg) (u : Nat → Int64) (τ : Sg) (hI : INV σ) (hA : XA lo ad σ) (ou : Nat) (hlo : lo ≤ ou) (hO : ¬ xown ad σ ou) (p0 : Int32) : Met la yL_stock wsL_stock ({ frames := 9, cells := 1, slots := 6, locals := 163 } : Room) (va_Pc [.ref (ad 0 0), .int p0, .ref ou] (fun U => XR g ad σ u τ U.heap ∧ OUTL g ou U.heap ∧ EL g lo U)) (QW ou (tD p0) (fun H0 Hm => Hm = H0) (ANL g ou ((σ 7 (ti p0)).toInt64))) 1 6 (fun q => lo ≤ q) := by
  refine met_ofWH (cc := cL_stock) (maxL := 4) (ret := (some .int)) (by decide) rfl ?_
  intro p e s m args below meth c s₁ B hml hv
  obtain ⟨rfl, hX, ⟨f9, hof⟩, hE⟩ := hv
  have hK := hE.1.1.1
  have hx := B.exec
  have hb := B.bytes
  have hr := B.returns
  have hts := atoms_spec (ws := wsL_stock) B.pre
  have hown : s.vm.findClass RL = some m.cls := findClass_of_methodNamed B.named
  have hlocks := B.notSynchronized
  have htab : c.exceptionTable.toList = [⟨0, 9, 12, 13⟩] := vx_table (x := yL_stock) B (hts (.codeWith yL_stock cL_stock 4 (some .int) [(0, 9, 12, 13)]) List.mem_cons_self)
  have ck13 := hts (.classLink RL 13 (en 2)) (by decide +kernel)
  have hl := lv_entry ([.ref (ad 0 0), .int p0, .ref ou]) (n := 4) (Nat.le_of_ble_eq_true rfl)
  rw [lg_entry_eq]
  generalize (lg_sl ([.ref (ad 0 0), .int p0, .ref ou]) ++ List.replicate (4 - (lg_sl ([.ref (ad 0 0), .int p0, .ref ou])).length) Slot.unset).toArray = ls at hl ⊢
  have hl : lv_has ls 4 [(0, .ref (ad 0 0)), (1, .int p0), (2, .ref ou)] := hl
  refine lv_aload_n hx hb dL_stock_0 rfl (lv_at hl 2 rfl) ?_
  refine lv_iconst (v := 0) hx hb dL_stock_1 (by decide) ?_
  refine lv_aload_n hx hb dL_stock_2 rfl (lv_at hl 0 rfl) ?_
  refine lv_iload_n hx hb dL_stock_3 rfl (lv_at hl 1 rfl) ?_
  refine xw_v (n := 1) (As := [.int p0]) (rest := [.int 0, .ref ou]) (G := (fun Hm => Hm = s.heap)) ⟨hx, hb, hml, hown, hts⟩ hE hX (qX6_stock la hst g lo ad σ u τ hI hA p0) (fun U hU hEU => ⟨by rw [hU]; exact hX, hEU.1.1⟩) (fun U a g9 mk q => ⟨q.1, q.2.calling g9 mk a⟩) (fun a st oc t h0 hq => ⟨hq.1, hq.2.1, hq.2.2.trans h0⟩) gL_stock_X6_stock rfl rfl rfl (by decide +kernel) ⟨Nat.le_of_ble_eq_true rfl, Nat.le_of_ble_eq_true rfl⟩ rfl hl.1 rfl (Nat.le_of_ble_eq_true rfl) dL_stock_4 ⟨Nat.le_of_ble_eq_true rfl, Nat.le_of_ble_eq_true rfl⟩ (fun H1 L hex hG hL => ?_) (fun H1 L q9 ce hex hz ho hce hcv hcl hL => ?_)
  · have ht : (tD p0) = 0 := exOfz (by decide) (tc_stock σ p0) hex
    replace hG : H1 = s.heap := hG
    subst hG
    refine lv_i2l hx hb dL_stock_7 rfl ?_
    refine sp_last hx hb hK 2 hof rfl (vin_dec (by decide +kernel)) dL_stock_8 (fun H2 j h1 h2 h3 => ?_)
    rw [show (0 : Int32).toNatClampNeg = 0 from ti_0] at h1
    refine lv_goto (tgt := 15) hx hb dL_stock_9 (by decide) ?_
    refine lv_iconst (v := 0) hx hb dL_stock_15 (by decide) ?_
    refine W.widen (k := 1) (n := 6) (Nat.le_of_ble_eq_true rfl) (Nat.le_of_ble_eq_true rfl) ?_
    exact W.iret (v := 0) hx hb hr (fun t ht9 hW => ⟨congrArg (fun z => Outcome.returned (some (Value.int z))) ht.symm, fun q => absurd ht q, fun _ => ⟨_, rfl, by rw [ht9]; exact h2, fun q hq => by rw [ht9]; exact h3 q hq, by rw [ht9]; exact ⟨_, h1, pk_uLs⟩⟩⟩) (fun z hz => (List.mem_append.mp hz).elim (fun h => (hL z h).elim) (fun h => by rw [List.mem_singleton.mp h]; exact hlo)) dL_stock_16
  · rcases tc_stock σ p0 with ht | ht | ⟨ht, hw9⟩ | ⟨ht, hw9⟩
    · exact absurd ht (exOf0 hex)
    · refine xw_c1 (i := 2) (ck := 13) hown htab hE.2 ⟨by decide, by decide⟩ (exOf1 ht) rfl ⟨rfl, by decide⟩ ck13 hce hcv hcl ?_
      refine lv_astore_n (lv' := [(3, .ref q9), (0, .ref (ad 0 0)), (1, .int p0), (2, .ref ou)]) hx hb dL_stock_12 rfl hl (by decide) rfl (fun ls hl => ?_)
      refine lv_iconst (v := 1) hx hb dL_stock_13 (by decide) ?_
      refine W.widen (k := 1) (n := 6) (Nat.le_of_ble_eq_true rfl) (Nat.le_of_ble_eq_true rfl) ?_
      exact W.iret (v := 1) hx hb hr (fun t ht9 hW => ⟨congrArg (fun z => Outcome.returned (some (Value.int z))) ht.symm, fun _ => ⟨by rw [ht9]; exact hz, fun q hq => by rw [ht9]; exact ho q hq⟩, fun q => absurd (ht.symm.trans q) (by decide)⟩) (fun z h => (hL z h).elim) dL_stock_14
    · exact absurd rfl hw9
    · exact absurd rfl hw9
set_option maxHeartbeats 4000000 in
set_option maxRecDepth 100000 in
theorem qL_addOrder (la : Launch) (hst : la.stackTraces = false) (g : EG) (lo : Nat) (ad : Nat → Nat → Nat) (σ : Sg) (u : Nat → Int64) (τ : Sg) (hI : INV σ) (hA : XA lo ad σ) (ou : Nat) (hlo : lo ≤ ou) (hO : ¬ xown ad σ ou) (p0 p1 p2 p3 p4 : Int32) : Met la yL_addOrder wsL_addOrder ({ frames := 9, cells := 6, slots := 36, locals := 168 } : Room) (va_Pc [.ref (ad 0 0), .int p0, .int p1, .int p2, .int p3, .int p4, .ref ou] (fun U => XR g ad σ u τ U.heap ∧ OUTL g ou U.heap ∧ EL g lo U)) (QW ou (t_addOrder σ p0 p1 p2 p3 p4) (fun H0 Hm => (XG g lo H0.size ad σ (F_addOrder σ p0 p1 p2 p3 p4) u τ Hm) ∧ H0.size ≤ Hm.size ∧ ∀ q, q < H0.size → ¬ xown ad σ q → Hm[q]? = H0[q]?) (ANL g ou ((σ 2 0).toInt64))) 6 36 (fun q => lo ≤ q) := by
  refine met_ofWH (cc := cL_addOrder) (maxL := 8) (ret := (some .int)) (by decide) rfl ?_
  intro p e s m args below meth c s₁ B hml hv
  obtain ⟨rfl, hX, ⟨f9, hof⟩, hE⟩ := hv
  have hK := hE.1.1.1
  have hx := B.exec
  have hb := B.bytes
  have hr := B.returns
  have hts := atoms_spec (ws := wsL_addOrder) B.pre
  have hown : s.vm.findClass RL = some m.cls := findClass_of_methodNamed B.named
  have hlocks := B.notSynchronized
  have htab : c.exceptionTable.toList = [⟨0, 16, 19, 20⟩, ⟨0, 16, 23, 13⟩, ⟨0, 16, 27, 15⟩] := vx_table (x := yL_addOrder) B (hts (.codeWith yL_addOrder cL_addOrder 8 (some .int) [(0, 16, 19, 20), (0, 16, 23, 13), (0, 16, 27, 15)]) List.mem_cons_self)
  have ck13 := hts (.classLink RL 13 (en 2)) (by decide +kernel)
  have ck15 := hts (.classLink RL 15 (en 3)) (by decide +kernel)
  have ck20 := hts (.classLink RL 20 (en 1)) (by decide +kernel)
  have hl := lv_entry ([.ref (ad 0 0), .int p0, .int p1, .int p2, .int p3, .int p4, .ref ou]) (n := 8) (Nat.le_of_ble_eq_true rfl)
  rw [lg_entry_eq]
  generalize (lg_sl ([.ref (ad 0 0), .int p0, .int p1, .int p2, .int p3, .int p4, .ref ou]) ++ List.replicate (8 - (lg_sl ([.ref (ad 0 0), .int p0, .int p1, .int p2, .int p3, .int p4, .ref ou])).length) Slot.unset).toArray = ls at hl ⊢
  have hl : lv_has ls 8 [(0, .ref (ad 0 0)), (1, .int p0), (2, .int p1), (3, .int p2), (4, .int p3), (5, .int p4), (6, .ref ou)] := hl
  refine lv_aload hx hb dL_addOrder_0 (lv_at hl 6 rfl) ?_
  refine lv_iconst (v := 0) hx hb dL_addOrder_2 (by decide) ?_
  refine lv_aload_n hx hb dL_addOrder_3 rfl (lv_at hl 0 rfl) ?_
  refine lv_iload_n hx hb dL_addOrder_4 rfl (lv_at hl 1 rfl) ?_
  refine lv_iload_n hx hb dL_addOrder_5 rfl (lv_at hl 2 rfl) ?_
  refine lv_iload_n hx hb dL_addOrder_6 rfl (lv_at hl 3 rfl) ?_
  refine lv_iload hx hb dL_addOrder_7 (lv_at hl 4 rfl) ?_
  refine lv_iload hx hb dL_addOrder_9 (lv_at hl 5 rfl) ?_
  refine xw_v (n := 5) (As := [.int p0, .int p1, .int p2, .int p3, .int p4]) (rest := [.int 0, .ref ou]) (G := (fun Hm => (XG g lo s.heap.size ad σ (F_addOrder σ p0 p1 p2 p3 p4) u τ Hm) ∧ s.heap.size ≤ Hm.size ∧ ∀ q, q < s.heap.size → ¬ xown ad σ q → Hm[q]? = s.heap[q]?)) ⟨hx, hb, hml, hown, hts⟩ hE hX (qX6_addOrder la hst g lo ad σ u τ hI hA s.heap.size p0 p1 p2 p3 p4) (fun U hU hEU => ⟨by rw [hU]; exact hX, hEU.1.1, by rw [hU]; exact Nat.le_refl _⟩) (fun U a g9 mk q => ⟨q.1, q.2.1.calling g9 mk a, q.2.2⟩) (fun a st oc t h0 hq => ⟨hq.1, hq.2.1, hq.2.2.1, by rw [← h0]; exact hq.2.2.2.1, fun q q1 q2 => by rw [← h0]; exact hq.2.2.2.2 q (by rw [h0]; exact q1) q2⟩) gL_addOrder_X6_addOrder rfl rfl rfl (by decide +kernel) ⟨Nat.le_of_ble_eq_true rfl, Nat.le_of_ble_eq_true rfl⟩ rfl hl.1 rfl (Nat.le_of_ble_eq_true rfl) dL_addOrder_11 ⟨Nat.le_of_ble_eq_true rfl, Nat.le_of_ble_eq_true rfl⟩ (fun H1 L hex hG hL => ?_) (fun H1 L q9 ce hex hz ho hce hcv hcl hL => ?_)
  · have ht : (t_addOrder σ p0 p1 p2 p3 p4) = 0 := exOfz (by decide) (tc_addOrder σ p0 p1 p2 p3 p4) hex
    obtain ⟨hP, hgz, hk⟩ := hG
    have hof := hof.kept (hk _ hof.lt hO)
    refine lv_i2l hx hb dL_addOrder_14 rfl ?_
    refine sp_last hx hb hK 2 hof rfl (vin_dec (by decide +kernel)) dL_addOrder_15 (fun H2 j h1 h2 h3 => ?_)
    rw [show (0 : Int32).toNatClampNeg = 0 from ti_0] at h1
    refine lv_goto (tgt := 31) hx hb dL_addOrder_16 (by decide) ?_
    refine lv_iconst (v := 0) hx hb dL_addOrder_31 (by decide) ?_
    refine W.widen (k := 6) (n := 36) (Nat.le_of_ble_eq_true rfl) (Nat.le_of_ble_eq_true rfl) ?_
    exact W.iret (v := 0) hx hb hr (fun t ht9 hW => ⟨congrArg (fun z => Outcome.returned (some (Value.int z))) ht.symm, fun q => absurd ht q, fun _ => ⟨_, ⟨hP, hgz, hk⟩, by rw [ht9]; exact h2, fun q hq => by rw [ht9]; exact h3 q hq, by rw [ht9]; exact ⟨_, h1, pk_uLs⟩⟩⟩) (fun z hz => (List.mem_append.mp hz).elim (hL z) (fun h => by rw [List.mem_singleton.mp h]; exact hlo)) dL_addOrder_32
  · rcases tc_addOrder σ p0 p1 p2 p3 p4 with ht | ht | ⟨ht, hw9⟩ | ⟨ht, hw9⟩
    · exact absurd ht (exOf0 hex)
    · refine xw_c1 (i := 1) (ck := 20) hown htab hE.2 ⟨by decide, by decide⟩ (exOf1 ht) rfl ⟨rfl, by decide⟩ ck20 hce hcv hcl ?_
      refine lv_astore (lv' := [(7, .ref q9), (0, .ref (ad 0 0)), (1, .int p0), (2, .int p1), (3, .int p2), (4, .int p3), (5, .int p4), (6, .ref ou)]) hx hb dL_addOrder_19 hl (by decide) rfl (fun ls hl => ?_)
      refine lv_iconst (v := 1) hx hb dL_addOrder_21 (by decide) ?_
      refine W.widen (k := 6) (n := 36) (Nat.le_of_ble_eq_true rfl) (Nat.le_of_ble_eq_true rfl) ?_
      exact W.iret (v := 1) hx hb hr (fun t ht9 hW => ⟨congrArg (fun z => Outcome.returned (some (Value.int z))) ht.symm, fun _ => ⟨by rw [ht9]; exact hz, fun q hq => by rw [ht9]; exact ho q hq⟩, fun q => absurd (ht.symm.trans q) (by decide)⟩) hL dL_addOrder_22
    · refine xw_c2 (i := 2) (j := 1) (ck := 13) (cj := 20) hown htab hE.2 ⟨by decide, by decide⟩ ⟨by decide, by decide⟩ (by decide) (exOf2 ht) rfl ⟨rfl, by decide⟩ ⟨rfl, by decide⟩ ck13 ck20 hce hcv hcl ?_
      refine lv_astore (lv' := [(7, .ref q9), (0, .ref (ad 0 0)), (1, .int p0), (2, .int p1), (3, .int p2), (4, .int p3), (5, .int p4), (6, .ref ou)]) hx hb dL_addOrder_23 hl (by decide) rfl (fun ls hl => ?_)
      refine lv_iconst (v := 2) hx hb dL_addOrder_25 (by decide) ?_
      refine W.widen (k := 6) (n := 36) (Nat.le_of_ble_eq_true rfl) (Nat.le_of_ble_eq_true rfl) ?_
      exact W.iret (v := 2) hx hb hr (fun t ht9 hW => ⟨congrArg (fun z => Outcome.returned (some (Value.int z))) ht.symm, fun _ => ⟨by rw [ht9]; exact hz, fun q hq => by rw [ht9]; exact ho q hq⟩, fun q => absurd (ht.symm.trans q) (by decide)⟩) hL dL_addOrder_26
    · refine xw_c3 (i := 3) (j := 2) (k := 1) (ck := 15) (cj := 13) (cz := 20) hown htab hE.2 ⟨by decide, by decide⟩ ⟨by decide, by decide⟩ ⟨by decide, by decide⟩ ⟨by decide, by decide⟩ (exOf3 ht) rfl ⟨rfl, by decide⟩ ⟨rfl, by decide⟩ ⟨rfl, by decide⟩ ck15 ck13 ck20 hce hcv hcl ?_
      refine lv_astore (lv' := [(7, .ref q9), (0, .ref (ad 0 0)), (1, .int p0), (2, .int p1), (3, .int p2), (4, .int p3), (5, .int p4), (6, .ref ou)]) hx hb dL_addOrder_27 hl (by decide) rfl (fun ls hl => ?_)
      refine lv_iconst (v := 3) hx hb dL_addOrder_29 (by decide) ?_
      refine W.widen (k := 6) (n := 36) (Nat.le_of_ble_eq_true rfl) (Nat.le_of_ble_eq_true rfl) ?_
      exact W.iret (v := 3) hx hb hr (fun t ht9 hW => ⟨congrArg (fun z => Outcome.returned (some (Value.int z))) ht.symm, fun _ => ⟨by rw [ht9]; exact hz, fun q hq => by rw [ht9]; exact ho q hq⟩, fun q => absurd (ht.symm.trans q) (by decide)⟩) hL dL_addOrder_30
set_option maxHeartbeats 4000000 in
set_option maxRecDepth 100000 in
theorem qL_addLot (la : Launch) (hst : la.stackTraces = false) (g : EG) (lo : Nat) (ad : Nat → Nat → Nat) (σ : Sg) (u : Nat → Int64) (τ : Sg) (hI : INV σ) (hA : XA lo ad σ) (ou : Nat) (hlo : lo ≤ ou) (hO : ¬ xown ad σ ou) (p0 p1 : Int32) : Met la yL_addLot wsL_addLot ({ frames := 8, cells := 4, slots := 24, locals := 145 } : Room) (va_Pc [.ref (ad 0 0), .int p0, .int p1, .ref ou] (fun U => XR g ad σ u τ U.heap ∧ OUTL g ou U.heap ∧ EL g lo U)) (QW ou (t_addLot σ p0 p1) (fun H0 Hm => (XG g lo H0.size ad σ (F_addLot σ p0 p1) u τ Hm) ∧ H0.size ≤ Hm.size ∧ ∀ q, q < H0.size → ¬ xown ad σ q → Hm[q]? = H0[q]?) (ANL g ou ((σ 3 0).toInt64))) 4 24 (fun q => lo ≤ q) := by
  refine met_ofWH (cc := cL_addLot) (maxL := 5) (ret := (some .int)) (by decide) rfl ?_
  intro p e s m args below meth c s₁ B hml hv
  obtain ⟨rfl, hX, ⟨f9, hof⟩, hE⟩ := hv
  have hK := hE.1.1.1
  have hx := B.exec
  have hb := B.bytes
  have hr := B.returns
  have hts := atoms_spec (ws := wsL_addLot) B.pre
  have hown : s.vm.findClass RL = some m.cls := findClass_of_methodNamed B.named
  have hlocks := B.notSynchronized
  have htab : c.exceptionTable.toList = [⟨0, 10, 13, 20⟩, ⟨0, 10, 17, 13⟩, ⟨0, 10, 21, 15⟩] := vx_table (x := yL_addLot) B (hts (.codeWith yL_addLot cL_addLot 5 (some .int) [(0, 10, 13, 20), (0, 10, 17, 13), (0, 10, 21, 15)]) List.mem_cons_self)
  have ck13 := hts (.classLink RL 13 (en 2)) (by decide +kernel)
  have ck15 := hts (.classLink RL 15 (en 3)) (by decide +kernel)
  have ck20 := hts (.classLink RL 20 (en 1)) (by decide +kernel)
  have hl := lv_entry ([.ref (ad 0 0), .int p0, .int p1, .ref ou]) (n := 5) (Nat.le_of_ble_eq_true rfl)
  rw [lg_entry_eq]
  generalize (lg_sl ([.ref (ad 0 0), .int p0, .int p1, .ref ou]) ++ List.replicate (5 - (lg_sl ([.ref (ad 0 0), .int p0, .int p1, .ref ou])).length) Slot.unset).toArray = ls at hl ⊢
  have hl : lv_has ls 5 [(0, .ref (ad 0 0)), (1, .int p0), (2, .int p1), (3, .ref ou)] := hl
  refine lv_aload_n hx hb dL_addLot_0 rfl (lv_at hl 3 rfl) ?_
  refine lv_iconst (v := 0) hx hb dL_addLot_1 (by decide) ?_
  refine lv_aload_n hx hb dL_addLot_2 rfl (lv_at hl 0 rfl) ?_
  refine lv_iload_n hx hb dL_addLot_3 rfl (lv_at hl 1 rfl) ?_
  refine lv_iload_n hx hb dL_addLot_4 rfl (lv_at hl 2 rfl) ?_
  refine xw_v (n := 2) (As := [.int p0, .int p1]) (rest := [.int 0, .ref ou]) (G := (fun Hm => (XG g lo s.heap.size ad σ (F_addLot σ p0 p1) u τ Hm) ∧ s.heap.size ≤ Hm.size ∧ ∀ q, q < s.heap.size → ¬ xown ad σ q → Hm[q]? = s.heap[q]?)) ⟨hx, hb, hml, hown, hts⟩ hE hX (qX6_addLot la hst g lo ad σ u τ hI hA s.heap.size p0 p1) (fun U hU hEU => ⟨by rw [hU]; exact hX, hEU.1.1, by rw [hU]; exact Nat.le_refl _⟩) (fun U a g9 mk q => ⟨q.1, q.2.1.calling g9 mk a, q.2.2⟩) (fun a st oc t h0 hq => ⟨hq.1, hq.2.1, hq.2.2.1, by rw [← h0]; exact hq.2.2.2.1, fun q q1 q2 => by rw [← h0]; exact hq.2.2.2.2 q (by rw [h0]; exact q1) q2⟩) gL_addLot_X6_addLot rfl rfl rfl (by decide +kernel) ⟨Nat.le_of_ble_eq_true rfl, Nat.le_of_ble_eq_true rfl⟩ rfl hl.1 rfl (Nat.le_of_ble_eq_true rfl) dL_addLot_5 ⟨Nat.le_of_ble_eq_true rfl, Nat.le_of_ble_eq_true rfl⟩ (fun H1 L hex hG hL => ?_) (fun H1 L q9 ce hex hz ho hce hcv hcl hL => ?_)
  · have ht : (t_addLot σ p0 p1) = 0 := exOfz (by decide) (tc_addLot σ p0 p1) hex
    obtain ⟨hP, hgz, hk⟩ := hG
    have hof := hof.kept (hk _ hof.lt hO)
    refine lv_i2l hx hb dL_addLot_8 rfl ?_
    refine sp_last hx hb hK 2 hof rfl (vin_dec (by decide +kernel)) dL_addLot_9 (fun H2 j h1 h2 h3 => ?_)
    rw [show (0 : Int32).toNatClampNeg = 0 from ti_0] at h1
    refine lv_goto (tgt := 25) hx hb dL_addLot_10 (by decide) ?_
    refine lv_iconst (v := 0) hx hb dL_addLot_25 (by decide) ?_
    refine W.widen (k := 4) (n := 24) (Nat.le_of_ble_eq_true rfl) (Nat.le_of_ble_eq_true rfl) ?_
    exact W.iret (v := 0) hx hb hr (fun t ht9 hW => ⟨congrArg (fun z => Outcome.returned (some (Value.int z))) ht.symm, fun q => absurd ht q, fun _ => ⟨_, ⟨hP, hgz, hk⟩, by rw [ht9]; exact h2, fun q hq => by rw [ht9]; exact h3 q hq, by rw [ht9]; exact ⟨_, h1, pk_uLs⟩⟩⟩) (fun z hz => (List.mem_append.mp hz).elim (hL z) (fun h => by rw [List.mem_singleton.mp h]; exact hlo)) dL_addLot_26
  · rcases tc_addLot σ p0 p1 with ht | ht | ⟨ht, hw9⟩ | ⟨ht, hw9⟩
    · exact absurd ht (exOf0 hex)
    · refine xw_c1 (i := 1) (ck := 20) hown htab hE.2 ⟨by decide, by decide⟩ (exOf1 ht) rfl ⟨rfl, by decide⟩ ck20 hce hcv hcl ?_
      refine lv_astore (lv' := [(4, .ref q9), (0, .ref (ad 0 0)), (1, .int p0), (2, .int p1), (3, .ref ou)]) hx hb dL_addLot_13 hl (by decide) rfl (fun ls hl => ?_)
      refine lv_iconst (v := 1) hx hb dL_addLot_15 (by decide) ?_
      refine W.widen (k := 4) (n := 24) (Nat.le_of_ble_eq_true rfl) (Nat.le_of_ble_eq_true rfl) ?_
      exact W.iret (v := 1) hx hb hr (fun t ht9 hW => ⟨congrArg (fun z => Outcome.returned (some (Value.int z))) ht.symm, fun _ => ⟨by rw [ht9]; exact hz, fun q hq => by rw [ht9]; exact ho q hq⟩, fun q => absurd (ht.symm.trans q) (by decide)⟩) hL dL_addLot_16
    · refine xw_c2 (i := 2) (j := 1) (ck := 13) (cj := 20) hown htab hE.2 ⟨by decide, by decide⟩ ⟨by decide, by decide⟩ (by decide) (exOf2 ht) rfl ⟨rfl, by decide⟩ ⟨rfl, by decide⟩ ck13 ck20 hce hcv hcl ?_
      refine lv_astore (lv' := [(4, .ref q9), (0, .ref (ad 0 0)), (1, .int p0), (2, .int p1), (3, .ref ou)]) hx hb dL_addLot_17 hl (by decide) rfl (fun ls hl => ?_)
      refine lv_iconst (v := 2) hx hb dL_addLot_19 (by decide) ?_
      refine W.widen (k := 4) (n := 24) (Nat.le_of_ble_eq_true rfl) (Nat.le_of_ble_eq_true rfl) ?_
      exact W.iret (v := 2) hx hb hr (fun t ht9 hW => ⟨congrArg (fun z => Outcome.returned (some (Value.int z))) ht.symm, fun _ => ⟨by rw [ht9]; exact hz, fun q hq => by rw [ht9]; exact ho q hq⟩, fun q => absurd (ht.symm.trans q) (by decide)⟩) hL dL_addLot_20
    · refine xw_c3 (i := 3) (j := 2) (k := 1) (ck := 15) (cj := 13) (cz := 20) hown htab hE.2 ⟨by decide, by decide⟩ ⟨by decide, by decide⟩ ⟨by decide, by decide⟩ ⟨by decide, by decide⟩ (exOf3 ht) rfl ⟨rfl, by decide⟩ ⟨rfl, by decide⟩ ⟨rfl, by decide⟩ ck15 ck13 ck20 hce hcv hcl ?_
      refine lv_astore (lv' := [(4, .ref q9), (0, .ref (ad 0 0)), (1, .int p0), (2, .int p1), (3, .ref ou)]) hx hb dL_addLot_21 hl (by decide) rfl (fun ls hl => ?_)
      refine lv_iconst (v := 3) hx hb dL_addLot_23 (by decide) ?_
      refine W.widen (k := 4) (n := 24) (Nat.le_of_ble_eq_true rfl) (Nat.le_of_ble_eq_true rfl) ?_
      exact W.iret (v := 3) hx hb hr (fun t ht9 hW => ⟨congrArg (fun z => Outcome.returned (some (Value.int z))) ht.symm, fun _ => ⟨by rw [ht9]; exact hz, fun q hq => by rw [ht9]; exact ho q hq⟩, fun q => absurd (ht.symm.trans q) (by decide)⟩) hL dL_addLot_24
set_option maxHeartbeats 4000000 in
set_option maxRecDepth 100000 in
theorem qL_addVat (la : Launch) (hst : la.stackTraces = false) (g : EG) (lo : Nat) (ad : Nat → Nat → Nat) (σ : Sg) (u : Nat → Int64) (τ : Sg) (hI : INV σ) (hA : XA lo ad σ) (ou : Nat) (hlo : lo ≤ ou) (hO : ¬ xown ad σ ou) (p0 : Int32) : Met la yL_addVat wsL_addVat ({ frames := 8, cells := 2, slots := 12, locals := 143 } : Room) (va_Pc [.ref (ad 0 0), .int p0, .ref ou] (fun U => XR g ad σ u τ U.heap ∧ OUTL g ou U.heap ∧ EL g lo U)) (QW ou (t_addVat σ p0) (fun H0 Hm => (XG g lo H0.size ad σ (F_addVat σ p0) u τ Hm) ∧ H0.size ≤ Hm.size ∧ ∀ q, q < H0.size → ¬ xown ad σ q → Hm[q]? = H0[q]?) (ANL g ou ((σ 4 0).toInt64))) 2 12 (fun q => lo ≤ q) := by
  refine met_ofWH (cc := cL_addVat) (maxL := 4) (ret := (some .int)) (by decide) rfl ?_
  intro p e s m args below meth c s₁ B hml hv
  obtain ⟨rfl, hX, ⟨f9, hof⟩, hE⟩ := hv
  have hK := hE.1.1.1
  have hx := B.exec
  have hb := B.bytes
  have hr := B.returns
  have hts := atoms_spec (ws := wsL_addVat) B.pre
  have hown : s.vm.findClass RL = some m.cls := findClass_of_methodNamed B.named
  have hlocks := B.notSynchronized
  have htab : c.exceptionTable.toList = [⟨0, 9, 12, 13⟩, ⟨0, 9, 15, 15⟩] := vx_table (x := yL_addVat) B (hts (.codeWith yL_addVat cL_addVat 4 (some .int) [(0, 9, 12, 13), (0, 9, 15, 15)]) List.mem_cons_self)
  have ck13 := hts (.classLink RL 13 (en 2)) (by decide +kernel)
  have ck15 := hts (.classLink RL 15 (en 3)) (by decide +kernel)
  have hl := lv_entry ([.ref (ad 0 0), .int p0, .ref ou]) (n := 4) (Nat.le_of_ble_eq_true rfl)
  rw [lg_entry_eq]
  generalize (lg_sl ([.ref (ad 0 0), .int p0, .ref ou]) ++ List.replicate (4 - (lg_sl ([.ref (ad 0 0), .int p0, .ref ou])).length) Slot.unset).toArray = ls at hl ⊢
  have hl : lv_has ls 4 [(0, .ref (ad 0 0)), (1, .int p0), (2, .ref ou)] := hl
  refine lv_aload_n hx hb dL_addVat_0 rfl (lv_at hl 2 rfl) ?_
  refine lv_iconst (v := 0) hx hb dL_addVat_1 (by decide) ?_
  refine lv_aload_n hx hb dL_addVat_2 rfl (lv_at hl 0 rfl) ?_
  refine lv_iload_n hx hb dL_addVat_3 rfl (lv_at hl 1 rfl) ?_
  refine xw_v (n := 1) (As := [.int p0]) (rest := [.int 0, .ref ou]) (G := (fun Hm => (XG g lo s.heap.size ad σ (F_addVat σ p0) u τ Hm) ∧ s.heap.size ≤ Hm.size ∧ ∀ q, q < s.heap.size → ¬ xown ad σ q → Hm[q]? = s.heap[q]?)) ⟨hx, hb, hml, hown, hts⟩ hE hX (qX6_addVat la hst g lo ad σ u τ hI hA s.heap.size p0) (fun U hU hEU => ⟨by rw [hU]; exact hX, hEU.1.1, by rw [hU]; exact Nat.le_refl _⟩) (fun U a g9 mk q => ⟨q.1, q.2.1.calling g9 mk a, q.2.2⟩) (fun a st oc t h0 hq => ⟨hq.1, hq.2.1, hq.2.2.1, by rw [← h0]; exact hq.2.2.2.1, fun q q1 q2 => by rw [← h0]; exact hq.2.2.2.2 q (by rw [h0]; exact q1) q2⟩) gL_addVat_X6_addVat rfl rfl rfl (by decide +kernel) ⟨Nat.le_of_ble_eq_true rfl, Nat.le_of_ble_eq_true rfl⟩ rfl hl.1 rfl (Nat.le_of_ble_eq_true rfl) dL_addVat_4 ⟨Nat.le_of_ble_eq_true rfl, Nat.le_of_ble_eq_true rfl⟩ (fun H1 L hex hG hL => ?_) (fun H1 L q9 ce hex hz ho hce hcv hcl hL => ?_)
  · have ht : (t_addVat σ p0) = 0 := exOfz (by decide) (tc_addVat σ p0) hex
    obtain ⟨hP, hgz, hk⟩ := hG
    have hof := hof.kept (hk _ hof.lt hO)
    refine lv_i2l hx hb dL_addVat_7 rfl ?_
    refine sp_last hx hb hK 2 hof rfl (vin_dec (by decide +kernel)) dL_addVat_8 (fun H2 j h1 h2 h3 => ?_)
    rw [show (0 : Int32).toNatClampNeg = 0 from ti_0] at h1
    refine lv_goto (tgt := 18) hx hb dL_addVat_9 (by decide) ?_
    refine lv_iconst (v := 0) hx hb dL_addVat_18 (by decide) ?_
    refine W.widen (k := 2) (n := 12) (Nat.le_of_ble_eq_true rfl) (Nat.le_of_ble_eq_true rfl) ?_
    exact W.iret (v := 0) hx hb hr (fun t ht9 hW => ⟨congrArg (fun z => Outcome.returned (some (Value.int z))) ht.symm, fun q => absurd ht q, fun _ => ⟨_, ⟨hP, hgz, hk⟩, by rw [ht9]; exact h2, fun q hq => by rw [ht9]; exact h3 q hq, by rw [ht9]; exact ⟨_, h1, pk_uLs⟩⟩⟩) (fun z hz => (List.mem_append.mp hz).elim (hL z) (fun h => by rw [List.mem_singleton.mp h]; exact hlo)) dL_addVat_19
  · rcases tc_addVat σ p0 with ht | ht | ⟨ht, hw9⟩ | ⟨ht, hw9⟩
    · exact absurd ht (exOf0 hex)
    · refine xw_c1 (i := 2) (ck := 13) hown htab hE.2 ⟨by decide, by decide⟩ (exOf1 ht) rfl ⟨rfl, by decide⟩ ck13 hce hcv hcl ?_
      refine lv_astore_n (lv' := [(3, .ref q9), (0, .ref (ad 0 0)), (1, .int p0), (2, .ref ou)]) hx hb dL_addVat_12 rfl hl (by decide) rfl (fun ls hl => ?_)
      refine lv_iconst (v := 1) hx hb dL_addVat_13 (by decide) ?_
      refine W.widen (k := 2) (n := 12) (Nat.le_of_ble_eq_true rfl) (Nat.le_of_ble_eq_true rfl) ?_
      exact W.iret (v := 1) hx hb hr (fun t ht9 hW => ⟨congrArg (fun z => Outcome.returned (some (Value.int z))) ht.symm, fun _ => ⟨by rw [ht9]; exact hz, fun q hq => by rw [ht9]; exact ho q hq⟩, fun q => absurd (ht.symm.trans q) (by decide)⟩) hL dL_addVat_14
    · refine xw_c2 (i := 3) (j := 2) (ck := 15) (cj := 13) hown htab hE.2 ⟨by decide, by decide⟩ ⟨by decide, by decide⟩ (by decide) (exOf2 ht) rfl ⟨rfl, by decide⟩ ⟨rfl, by decide⟩ ck15 ck13 hce hcv hcl ?_
      refine lv_astore_n (lv' := [(3, .ref q9), (0, .ref (ad 0 0)), (1, .int p0), (2, .ref ou)]) hx hb dL_addVat_15 rfl hl (by decide) rfl (fun ls hl => ?_)
      refine lv_iconst (v := 2) hx hb dL_addVat_16 (by decide) ?_
      refine W.widen (k := 2) (n := 12) (Nat.le_of_ble_eq_true rfl) (Nat.le_of_ble_eq_true rfl) ?_
      exact W.iret (v := 2) hx hb hr (fun t ht9 hW => ⟨congrArg (fun z => Outcome.returned (some (Value.int z))) ht.symm, fun _ => ⟨by rw [ht9]; exact hz, fun q hq => by rw [ht9]; exact ho q hq⟩, fun q => absurd (ht.symm.trans q) (by decide)⟩) hL dL_addVat_17
    · exact absurd rfl hw9
set_option maxHeartbeats 4000000 in
set_option maxRecDepth 100000 in
theorem qL_needs (la : Launch) (hst : la.stackTraces = false) (g : EG) (lo : Nat) (ad : Nat → Nat → Nat) (σ : Sg) (u : Nat → Int64) (τ : Sg) (hI : INV σ) (hA : XA lo ad σ) (ou : Nat) (hlo : lo ≤ ou) (hO : ¬ xown ad σ ou) (p0 p1 : Int32) : Met la yL_needs wsL_needs ({ frames := 9, cells := 2, slots := 12, locals := 165 } : Room) (va_Pc [.ref (ad 0 0), .int p0, .int p1, .ref ou] (fun U => XR g ad σ u τ U.heap ∧ OUTL g ou U.heap ∧ EL g lo U)) (QW ou (t_needs σ p0 p1) (fun H0 Hm => Hm = H0) (ANL g ou ((f_needed σ p0 p1).toInt64))) 2 12 (fun q => lo ≤ q) := by
  refine met_ofWH (cc := cL_needs) (maxL := 5) (ret := (some .int)) (by decide) rfl ?_
  intro p e s m args below meth c s₁ B hml hv
  obtain ⟨rfl, hX, ⟨f9, hof⟩, hE⟩ := hv
  have hK := hE.1.1.1
  have hx := B.exec
  have hb := B.bytes
  have hr := B.returns
  have hts := atoms_spec (ws := wsL_needs) B.pre
  have hown : s.vm.findClass RL = some m.cls := findClass_of_methodNamed B.named
  have hlocks := B.notSynchronized
  have htab : c.exceptionTable.toList = [⟨0, 10, 13, 20⟩, ⟨0, 10, 17, 13⟩] := vx_table (x := yL_needs) B (hts (.codeWith yL_needs cL_needs 5 (some .int) [(0, 10, 13, 20), (0, 10, 17, 13)]) List.mem_cons_self)
  have ck13 := hts (.classLink RL 13 (en 2)) (by decide +kernel)
  have ck20 := hts (.classLink RL 20 (en 1)) (by decide +kernel)
  have hl := lv_entry ([.ref (ad 0 0), .int p0, .int p1, .ref ou]) (n := 5) (Nat.le_of_ble_eq_true rfl)
  rw [lg_entry_eq]
  generalize (lg_sl ([.ref (ad 0 0), .int p0, .int p1, .ref ou]) ++ List.replicate (5 - (lg_sl ([.ref (ad 0 0), .int p0, .int p1, .ref ou])).length) Slot.unset).toArray = ls at hl ⊢
  have hl : lv_has ls 5 [(0, .ref (ad 0 0)), (1, .int p0), (2, .int p1), (3, .ref ou)] := hl
  refine lv_aload_n hx hb dL_needs_0 rfl (lv_at hl 3 rfl) ?_
  refine lv_iconst (v := 0) hx hb dL_needs_1 (by decide) ?_
  refine lv_aload_n hx hb dL_needs_2 rfl (lv_at hl 0 rfl) ?_
  refine lv_iload_n hx hb dL_needs_3 rfl (lv_at hl 1 rfl) ?_
  refine lv_iload_n hx hb dL_needs_4 rfl (lv_at hl 2 rfl) ?_
  refine xw_v (n := 2) (As := [.int p0, .int p1]) (rest := [.int 0, .ref ou]) (G := (fun Hm => Hm = s.heap)) ⟨hx, hb, hml, hown, hts⟩ hE hX (qX6_needs la hst g lo ad σ u τ hI hA p0 p1) (fun U hU hEU => ⟨by rw [hU]; exact hX, hEU.1.1⟩) (fun U a g9 mk q => ⟨q.1, q.2.calling g9 mk a⟩) (fun a st oc t h0 hq => ⟨hq.1, hq.2.1, hq.2.2.trans h0⟩) gL_needs_X6_needs rfl rfl rfl (by decide +kernel) ⟨Nat.le_of_ble_eq_true rfl, Nat.le_of_ble_eq_true rfl⟩ rfl hl.1 rfl (Nat.le_of_ble_eq_true rfl) dL_needs_5 ⟨Nat.le_of_ble_eq_true rfl, Nat.le_of_ble_eq_true rfl⟩ (fun H1 L hex hG hL => ?_) (fun H1 L q9 ce hex hz ho hce hcv hcl hL => ?_)
  · have ht : (t_needs σ p0 p1) = 0 := exOfz (by decide) (tc_needs σ p0 p1) hex
    replace hG : H1 = s.heap := hG
    subst hG
    refine lv_i2l hx hb dL_needs_8 rfl ?_
    refine sp_last hx hb hK 2 hof rfl (vin_dec (by decide +kernel)) dL_needs_9 (fun H2 j h1 h2 h3 => ?_)
    rw [show (0 : Int32).toNatClampNeg = 0 from ti_0] at h1
    refine lv_goto (tgt := 21) hx hb dL_needs_10 (by decide) ?_
    refine lv_iconst (v := 0) hx hb dL_needs_21 (by decide) ?_
    refine W.widen (k := 2) (n := 12) (Nat.le_of_ble_eq_true rfl) (Nat.le_of_ble_eq_true rfl) ?_
    exact W.iret (v := 0) hx hb hr (fun t ht9 hW => ⟨congrArg (fun z => Outcome.returned (some (Value.int z))) ht.symm, fun q => absurd ht q, fun _ => ⟨_, rfl, by rw [ht9]; exact h2, fun q hq => by rw [ht9]; exact h3 q hq, by rw [ht9]; exact ⟨_, h1, pk_uLs⟩⟩⟩) (fun z hz => (List.mem_append.mp hz).elim (fun h => (hL z h).elim) (fun h => by rw [List.mem_singleton.mp h]; exact hlo)) dL_needs_22
  · rcases tc_needs σ p0 p1 with ht | ht | ⟨ht, hw9⟩ | ⟨ht, hw9⟩
    · exact absurd ht (exOf0 hex)
    · refine xw_c1 (i := 1) (ck := 20) hown htab hE.2 ⟨by decide, by decide⟩ (exOf1 ht) rfl ⟨rfl, by decide⟩ ck20 hce hcv hcl ?_
      refine lv_astore (lv' := [(4, .ref q9), (0, .ref (ad 0 0)), (1, .int p0), (2, .int p1), (3, .ref ou)]) hx hb dL_needs_13 hl (by decide) rfl (fun ls hl => ?_)
      refine lv_iconst (v := 1) hx hb dL_needs_15 (by decide) ?_
      refine W.widen (k := 2) (n := 12) (Nat.le_of_ble_eq_true rfl) (Nat.le_of_ble_eq_true rfl) ?_
      exact W.iret (v := 1) hx hb hr (fun t ht9 hW => ⟨congrArg (fun z => Outcome.returned (some (Value.int z))) ht.symm, fun _ => ⟨by rw [ht9]; exact hz, fun q hq => by rw [ht9]; exact ho q hq⟩, fun q => absurd (ht.symm.trans q) (by decide)⟩) (fun z h => (hL z h).elim) dL_needs_16
    · refine xw_c2 (i := 2) (j := 1) (ck := 13) (cj := 20) hown htab hE.2 ⟨by decide, by decide⟩ ⟨by decide, by decide⟩ (by decide) (exOf2 ht) rfl ⟨rfl, by decide⟩ ⟨rfl, by decide⟩ ck13 ck20 hce hcv hcl ?_
      refine lv_astore (lv' := [(4, .ref q9), (0, .ref (ad 0 0)), (1, .int p0), (2, .int p1), (3, .ref ou)]) hx hb dL_needs_17 hl (by decide) rfl (fun ls hl => ?_)
      refine lv_iconst (v := 2) hx hb dL_needs_19 (by decide) ?_
      refine W.widen (k := 2) (n := 12) (Nat.le_of_ble_eq_true rfl) (Nat.le_of_ble_eq_true rfl) ?_
      exact W.iret (v := 2) hx hb hr (fun t ht9 hW => ⟨congrArg (fun z => Outcome.returned (some (Value.int z))) ht.symm, fun _ => ⟨by rw [ht9]; exact hz, fun q hq => by rw [ht9]; exact ho q hq⟩, fun q => absurd (ht.symm.trans q) (by decide)⟩) (fun z h => (hL z h).elim) dL_needs_20
    · exact absurd rfl hw9
set_option maxHeartbeats 4000000 in
set_option maxRecDepth 100000 in
theorem qL_hoursFor (la : Launch) (hst : la.stackTraces = false) (g : EG) (lo : Nat) (ad : Nat → Nat → Nat) (σ : Sg) (u : Nat → Int64) (τ : Sg) (hI : INV σ) (hA : XA lo ad σ) (ou : Nat) (hlo : lo ≤ ou) (hO : ¬ xown ad σ ou) (p0 : Int32) : Met la yL_hoursFor wsL_hoursFor ({ frames := 8, cells := 1, slots := 6, locals := 143 } : Room) (va_Pc [.ref (ad 0 0), .int p0, .ref ou] (fun U => XR g ad σ u τ U.heap ∧ OUTL g ou U.heap ∧ EL g lo U)) (QW ou (tL σ p0) (fun H0 Hm => Hm = H0) (ANL g ou ((f_hours σ p0).toInt64))) 1 6 (fun q => lo ≤ q) := by
  refine met_ofWH (cc := cL_hoursFor) (maxL := 4) (ret := (some .int)) (by decide) rfl ?_
  intro p e s m args below meth c s₁ B hml hv
  obtain ⟨rfl, hX, ⟨f9, hof⟩, hE⟩ := hv
  have hK := hE.1.1.1
  have hx := B.exec
  have hb := B.bytes
  have hr := B.returns
  have hts := atoms_spec (ws := wsL_hoursFor) B.pre
  have hown : s.vm.findClass RL = some m.cls := findClass_of_methodNamed B.named
  have hlocks := B.notSynchronized
  have htab : c.exceptionTable.toList = [⟨0, 9, 12, 20⟩] := vx_table (x := yL_hoursFor) B (hts (.codeWith yL_hoursFor cL_hoursFor 4 (some .int) [(0, 9, 12, 20)]) List.mem_cons_self)
  have ck20 := hts (.classLink RL 20 (en 1)) (by decide +kernel)
  have hl := lv_entry ([.ref (ad 0 0), .int p0, .ref ou]) (n := 4) (Nat.le_of_ble_eq_true rfl)
  rw [lg_entry_eq]
  generalize (lg_sl ([.ref (ad 0 0), .int p0, .ref ou]) ++ List.replicate (4 - (lg_sl ([.ref (ad 0 0), .int p0, .ref ou])).length) Slot.unset).toArray = ls at hl ⊢
  have hl : lv_has ls 4 [(0, .ref (ad 0 0)), (1, .int p0), (2, .ref ou)] := hl
  refine lv_aload_n hx hb dL_hoursFor_0 rfl (lv_at hl 2 rfl) ?_
  refine lv_iconst (v := 0) hx hb dL_hoursFor_1 (by decide) ?_
  refine lv_aload_n hx hb dL_hoursFor_2 rfl (lv_at hl 0 rfl) ?_
  refine lv_iload_n hx hb dL_hoursFor_3 rfl (lv_at hl 1 rfl) ?_
  refine xw_v (n := 1) (As := [.int p0]) (rest := [.int 0, .ref ou]) (G := (fun Hm => Hm = s.heap)) ⟨hx, hb, hml, hown, hts⟩ hE hX (qX6_hoursFor la hst g lo ad σ u τ hI hA p0) (fun U hU hEU => ⟨by rw [hU]; exact hX, hEU.1.1⟩) (fun U a g9 mk q => ⟨q.1, q.2.calling g9 mk a⟩) (fun a st oc t h0 hq => ⟨hq.1, hq.2.1, hq.2.2.trans h0⟩) gL_hoursFor_X6_hoursFor rfl rfl rfl (by decide +kernel) ⟨Nat.le_of_ble_eq_true rfl, Nat.le_of_ble_eq_true rfl⟩ rfl hl.1 rfl (Nat.le_of_ble_eq_true rfl) dL_hoursFor_4 ⟨Nat.le_of_ble_eq_true rfl, Nat.le_of_ble_eq_true rfl⟩ (fun H1 L hex hG hL => ?_) (fun H1 L q9 ce hex hz ho hce hcv hcl hL => ?_)
  · have ht : (tL σ p0) = 0 := exOfz (by decide) (tc_hoursFor σ p0) hex
    replace hG : H1 = s.heap := hG
    subst hG
    refine lv_i2l hx hb dL_hoursFor_7 rfl ?_
    refine sp_last hx hb hK 2 hof rfl (vin_dec (by decide +kernel)) dL_hoursFor_8 (fun H2 j h1 h2 h3 => ?_)
    rw [show (0 : Int32).toNatClampNeg = 0 from ti_0] at h1
    refine lv_goto (tgt := 15) hx hb dL_hoursFor_9 (by decide) ?_
    refine lv_iconst (v := 0) hx hb dL_hoursFor_15 (by decide) ?_
    refine W.widen (k := 1) (n := 6) (Nat.le_of_ble_eq_true rfl) (Nat.le_of_ble_eq_true rfl) ?_
    exact W.iret (v := 0) hx hb hr (fun t ht9 hW => ⟨congrArg (fun z => Outcome.returned (some (Value.int z))) ht.symm, fun q => absurd ht q, fun _ => ⟨_, rfl, by rw [ht9]; exact h2, fun q hq => by rw [ht9]; exact h3 q hq, by rw [ht9]; exact ⟨_, h1, pk_uLs⟩⟩⟩) (fun z hz => (List.mem_append.mp hz).elim (fun h => (hL z h).elim) (fun h => by rw [List.mem_singleton.mp h]; exact hlo)) dL_hoursFor_16
  · rcases tc_hoursFor σ p0 with ht | ht | ⟨ht, hw9⟩ | ⟨ht, hw9⟩
    · exact absurd ht (exOf0 hex)
    · refine xw_c1 (i := 1) (ck := 20) hown htab hE.2 ⟨by decide, by decide⟩ (exOf1 ht) rfl ⟨rfl, by decide⟩ ck20 hce hcv hcl ?_
      refine lv_astore_n (lv' := [(3, .ref q9), (0, .ref (ad 0 0)), (1, .int p0), (2, .ref ou)]) hx hb dL_hoursFor_12 rfl hl (by decide) rfl (fun ls hl => ?_)
      refine lv_iconst (v := 1) hx hb dL_hoursFor_13 (by decide) ?_
      refine W.widen (k := 1) (n := 6) (Nat.le_of_ble_eq_true rfl) (Nat.le_of_ble_eq_true rfl) ?_
      exact W.iret (v := 1) hx hb hr (fun t ht9 hW => ⟨congrArg (fun z => Outcome.returned (some (Value.int z))) ht.symm, fun _ => ⟨by rw [ht9]; exact hz, fun q hq => by rw [ht9]; exact ho q hq⟩, fun q => absurd (ht.symm.trans q) (by decide)⟩) (fun z h => (hL z h).elim) dL_hoursFor_14
    · exact absurd rfl hw9
    · exact absurd rfl hw9
set_option maxHeartbeats 4000000 in
set_option maxRecDepth 100000 in
theorem qL_reason (la : Launch) (hst : la.stackTraces = false) (g : EG) (lo : Nat) (ad : Nat → Nat → Nat) (σ : Sg) (u : Nat → Int64) (τ : Sg) (hI : INV σ) (hA : XA lo ad σ) (ou : Nat) (hlo : lo ≤ ou) (hO : ¬ xown ad σ ou) (p0 p1 : Int32) : Met la yL_reason wsL_reason ({ frames := 8, cells := 2, slots := 12, locals := 145 } : Room) (va_Pc [.ref (ad 0 0), .int p0, .int p1, .ref ou] (fun U => XR g ad σ u τ U.heap ∧ OUTL g ou U.heap ∧ EL g lo U)) (QW ou (tLV σ p0 p1) (fun H0 Hm => Hm = H0) (ANL g ou ((f_why σ p0 p1).toInt64))) 2 12 (fun q => lo ≤ q) := by
  refine met_ofWH (cc := cL_reason) (maxL := 5) (ret := (some .int)) (by decide) rfl ?_
  intro p e s m args below meth c s₁ B hml hv
  obtain ⟨rfl, hX, ⟨f9, hof⟩, hE⟩ := hv
  have hK := hE.1.1.1
  have hx := B.exec
  have hb := B.bytes
  have hr := B.returns
  have hts := atoms_spec (ws := wsL_reason) B.pre
  have hown : s.vm.findClass RL = some m.cls := findClass_of_methodNamed B.named
  have hlocks := B.notSynchronized
  have htab : c.exceptionTable.toList = [⟨0, 10, 13, 20⟩] := vx_table (x := yL_reason) B (hts (.codeWith yL_reason cL_reason 5 (some .int) [(0, 10, 13, 20)]) List.mem_cons_self)
  have ck20 := hts (.classLink RL 20 (en 1)) (by decide +kernel)
  have hl := lv_entry ([.ref (ad 0 0), .int p0, .int p1, .ref ou]) (n := 5) (Nat.le_of_ble_eq_true rfl)
  rw [lg_entry_eq]
  generalize (lg_sl ([.ref (ad 0 0), .int p0, .int p1, .ref ou]) ++ List.replicate (5 - (lg_sl ([.ref (ad 0 0), .int p0, .int p1, .ref ou])).length) Slot.unset).toArray = ls at hl ⊢
  have hl : lv_has ls 5 [(0, .ref (ad 0 0)), (1, .int p0), (2, .int p1), (3, .ref ou)] := hl
  refine lv_aload_n hx hb dL_reason_0 rfl (lv_at hl 3 rfl) ?_
  refine lv_iconst (v := 0) hx hb dL_reason_1 (by decide) ?_
  refine lv_aload_n hx hb dL_reason_2 rfl (lv_at hl 0 rfl) ?_
  refine lv_iload_n hx hb dL_reason_3 rfl (lv_at hl 1 rfl) ?_
  refine lv_iload_n hx hb dL_reason_4 rfl (lv_at hl 2 rfl) ?_
  refine xw_v (n := 2) (As := [.int p0, .int p1]) (rest := [.int 0, .ref ou]) (G := (fun Hm => Hm = s.heap)) ⟨hx, hb, hml, hown, hts⟩ hE hX (qX6_reason la hst g lo ad σ u τ hI hA p0 p1) (fun U hU hEU => ⟨by rw [hU]; exact hX, hEU.1.1⟩) (fun U a g9 mk q => ⟨q.1, q.2.calling g9 mk a⟩) (fun a st oc t h0 hq => ⟨hq.1, hq.2.1, hq.2.2.trans h0⟩) gL_reason_X6_reason rfl rfl rfl (by decide +kernel) ⟨Nat.le_of_ble_eq_true rfl, Nat.le_of_ble_eq_true rfl⟩ rfl hl.1 rfl (Nat.le_of_ble_eq_true rfl) dL_reason_5 ⟨Nat.le_of_ble_eq_true rfl, Nat.le_of_ble_eq_true rfl⟩ (fun H1 L hex hG hL => ?_) (fun H1 L q9 ce hex hz ho hce hcv hcl hL => ?_)
  · have ht : (tLV σ p0 p1) = 0 := exOfz (by decide) (tc_reason σ p0 p1) hex
    replace hG : H1 = s.heap := hG
    subst hG
    refine lv_i2l hx hb dL_reason_8 rfl ?_
    refine sp_last hx hb hK 2 hof rfl (vin_dec (by decide +kernel)) dL_reason_9 (fun H2 j h1 h2 h3 => ?_)
    rw [show (0 : Int32).toNatClampNeg = 0 from ti_0] at h1
    refine lv_goto (tgt := 17) hx hb dL_reason_10 (by decide) ?_
    refine lv_iconst (v := 0) hx hb dL_reason_17 (by decide) ?_
    refine W.widen (k := 2) (n := 12) (Nat.le_of_ble_eq_true rfl) (Nat.le_of_ble_eq_true rfl) ?_
    exact W.iret (v := 0) hx hb hr (fun t ht9 hW => ⟨congrArg (fun z => Outcome.returned (some (Value.int z))) ht.symm, fun q => absurd ht q, fun _ => ⟨_, rfl, by rw [ht9]; exact h2, fun q hq => by rw [ht9]; exact h3 q hq, by rw [ht9]; exact ⟨_, h1, pk_uLs⟩⟩⟩) (fun z hz => (List.mem_append.mp hz).elim (fun h => (hL z h).elim) (fun h => by rw [List.mem_singleton.mp h]; exact hlo)) dL_reason_18
  · rcases tc_reason σ p0 p1 with ht | ht | ⟨ht, hw9⟩ | ⟨ht, hw9⟩
    · exact absurd ht (exOf0 hex)
    · refine xw_c1 (i := 1) (ck := 20) hown htab hE.2 ⟨by decide, by decide⟩ (exOf1 ht) rfl ⟨rfl, by decide⟩ ck20 hce hcv hcl ?_
      refine lv_astore (lv' := [(4, .ref q9), (0, .ref (ad 0 0)), (1, .int p0), (2, .int p1), (3, .ref ou)]) hx hb dL_reason_13 hl (by decide) rfl (fun ls hl => ?_)
      refine lv_iconst (v := 1) hx hb dL_reason_15 (by decide) ?_
      refine W.widen (k := 2) (n := 12) (Nat.le_of_ble_eq_true rfl) (Nat.le_of_ble_eq_true rfl) ?_
      exact W.iret (v := 1) hx hb hr (fun t ht9 hW => ⟨congrArg (fun z => Outcome.returned (some (Value.int z))) ht.symm, fun _ => ⟨by rw [ht9]; exact hz, fun q hq => by rw [ht9]; exact ho q hq⟩, fun q => absurd (ht.symm.trans q) (by decide)⟩) (fun z h => (hL z h).elim) dL_reason_16
    · exact absurd rfl hw9
    · exact absurd rfl hw9
set_option maxHeartbeats 4000000 in
set_option maxRecDepth 100000 in
theorem qL_dye (la : Launch) (hst : la.stackTraces = false) (g : EG) (lo : Nat) (ad : Nat → Nat → Nat) (σ : Sg) (u : Nat → Int64) (τ : Sg) (hI : INV σ) (hA : XA lo ad σ) (ou : Nat) (hlo : lo ≤ ou) (hO : ¬ xown ad σ ou) (p0 p1 p2 p3 p4 : Int32) : Met la yL_dye wsL_dye ({ frames := 9, cells := 6, slots := 36, locals := 171 } : Room) (va_Pc [.ref (ad 0 0), .int p0, .int p1, .int p2, .int p3, .int p4, .ref ou] (fun U => XR g ad σ u τ U.heap ∧ OUTL g ou U.heap ∧ EL g lo U)) (QW ou (t_dye σ p0 p1 p2 p3 p4) (fun H0 Hm => (XR g ad (F_dye σ p0 p1 p2 p3 p4) (u_dye σ u p0 p1 p2 p3 p4) τ Hm) ∧ H0.size ≤ Hm.size ∧ ∀ q, q < H0.size → ¬ xown ad σ q → Hm[q]? = H0[q]?) (ANL g ou ((σ 25 (ti p1) + f_hours σ p0).toInt64))) 6 36 (fun q => lo ≤ q) := by
  refine met_ofWH (cc := cL_dye) (maxL := 8) (ret := (some .int)) (by decide) rfl ?_
  intro p e s m args below meth c s₁ B hml hv
  obtain ⟨rfl, hX, ⟨f9, hof⟩, hE⟩ := hv
  have hK := hE.1.1.1
  have hx := B.exec
  have hb := B.bytes
  have hr := B.returns
  have hts := atoms_spec (ws := wsL_dye) B.pre
  have hown : s.vm.findClass RL = some m.cls := findClass_of_methodNamed B.named
  have hlocks := B.notSynchronized
  have htab : c.exceptionTable.toList = [⟨0, 16, 19, 20⟩, ⟨0, 16, 23, 13⟩, ⟨0, 16, 27, 53⟩] := vx_table (x := yL_dye) B (hts (.codeWith yL_dye cL_dye 8 (some .int) [(0, 16, 19, 20), (0, 16, 23, 13), (0, 16, 27, 53)]) List.mem_cons_self)
  have ck13 := hts (.classLink RL 13 (en 2)) (by decide +kernel)
  have ck20 := hts (.classLink RL 20 (en 1)) (by decide +kernel)
  have ck53 := hts (.classLink RL 53 (en 4)) (by decide +kernel)
  have hl := lv_entry ([.ref (ad 0 0), .int p0, .int p1, .int p2, .int p3, .int p4, .ref ou]) (n := 8) (Nat.le_of_ble_eq_true rfl)
  rw [lg_entry_eq]
  generalize (lg_sl ([.ref (ad 0 0), .int p0, .int p1, .int p2, .int p3, .int p4, .ref ou]) ++ List.replicate (8 - (lg_sl ([.ref (ad 0 0), .int p0, .int p1, .int p2, .int p3, .int p4, .ref ou])).length) Slot.unset).toArray = ls at hl ⊢
  have hl : lv_has ls 8 [(0, .ref (ad 0 0)), (1, .int p0), (2, .int p1), (3, .int p2), (4, .int p3), (5, .int p4), (6, .ref ou)] := hl
  refine lv_aload hx hb dL_dye_0 (lv_at hl 6 rfl) ?_
  refine lv_iconst (v := 0) hx hb dL_dye_2 (by decide) ?_
  refine lv_aload_n hx hb dL_dye_3 rfl (lv_at hl 0 rfl) ?_
  refine lv_iload_n hx hb dL_dye_4 rfl (lv_at hl 1 rfl) ?_
  refine lv_iload_n hx hb dL_dye_5 rfl (lv_at hl 2 rfl) ?_
  refine lv_iload_n hx hb dL_dye_6 rfl (lv_at hl 3 rfl) ?_
  refine lv_iload hx hb dL_dye_7 (lv_at hl 4 rfl) ?_
  refine lv_iload hx hb dL_dye_9 (lv_at hl 5 rfl) ?_
  refine xw_v (n := 5) (As := [.int p0, .int p1, .int p2, .int p3, .int p4]) (rest := [.int 0, .ref ou]) (G := (fun Hm => (XR g ad (F_dye σ p0 p1 p2 p3 p4) (u_dye σ u p0 p1 p2 p3 p4) τ Hm) ∧ s.heap.size ≤ Hm.size ∧ ∀ q, q < s.heap.size → ¬ xown ad σ q → Hm[q]? = s.heap[q]?)) ⟨hx, hb, hml, hown, hts⟩ hE hX (qX6_dye la hst g lo ad σ u τ hI hA p0 p1 p2 p3 p4) (fun U hU hEU => ⟨by rw [hU]; exact hX, hEU.1.1⟩) (fun U a g9 mk q => ⟨q.1, q.2.calling g9 mk a⟩) (fun a st oc t h0 hq => ⟨hq.1, hq.2.1, hq.2.2.1, by rw [← h0]; exact hq.2.2.2.1, fun q q1 q2 => by rw [← h0]; exact hq.2.2.2.2 q (by rw [h0]; exact q1) q2⟩) gL_dye_X6_dye rfl rfl rfl (by decide +kernel) ⟨Nat.le_of_ble_eq_true rfl, Nat.le_of_ble_eq_true rfl⟩ rfl hl.1 rfl (Nat.le_of_ble_eq_true rfl) dL_dye_11 ⟨Nat.le_of_ble_eq_true rfl, Nat.le_of_ble_eq_true rfl⟩ (fun H1 L hex hG hL => ?_) (fun H1 L q9 ce hex hz ho hce hcv hcl hL => ?_)
  · have ht : (t_dye σ p0 p1 p2 p3 p4) = 0 := exOfz (by decide) (tc_dye σ p0 p1 p2 p3 p4) hex
    obtain ⟨hP, hgz, hk⟩ := hG
    have hof := hof.kept (hk _ hof.lt hO)
    refine lv_i2l hx hb dL_dye_14 rfl ?_
    refine sp_last hx hb hK 2 hof rfl (vin_dec (by decide +kernel)) dL_dye_15 (fun H2 j h1 h2 h3 => ?_)
    rw [show (0 : Int32).toNatClampNeg = 0 from ti_0] at h1
    refine lv_goto (tgt := 31) hx hb dL_dye_16 (by decide) ?_
    refine lv_iconst (v := 0) hx hb dL_dye_31 (by decide) ?_
    refine W.widen (k := 6) (n := 36) (Nat.le_of_ble_eq_true rfl) (Nat.le_of_ble_eq_true rfl) ?_
    exact W.iret (v := 0) hx hb hr (fun t ht9 hW => ⟨congrArg (fun z => Outcome.returned (some (Value.int z))) ht.symm, fun q => absurd ht q, fun _ => ⟨_, ⟨hP, hgz, hk⟩, by rw [ht9]; exact h2, fun q hq => by rw [ht9]; exact h3 q hq, by rw [ht9]; exact ⟨_, h1, pk_uLs⟩⟩⟩) (fun z hz => (List.mem_append.mp hz).elim (hL z) (fun h => by rw [List.mem_singleton.mp h]; exact hlo)) dL_dye_32
  · rcases tc_dye σ p0 p1 p2 p3 p4 with ht | ht | ⟨ht, hw9⟩ | ⟨ht, hw9⟩
    · exact absurd ht (exOf0 hex)
    · refine xw_c1 (i := 1) (ck := 20) hown htab hE.2 ⟨by decide, by decide⟩ (exOf1 ht) rfl ⟨rfl, by decide⟩ ck20 hce hcv hcl ?_
      refine lv_astore (lv' := [(7, .ref q9), (0, .ref (ad 0 0)), (1, .int p0), (2, .int p1), (3, .int p2), (4, .int p3), (5, .int p4), (6, .ref ou)]) hx hb dL_dye_19 hl (by decide) rfl (fun ls hl => ?_)
      refine lv_iconst (v := 1) hx hb dL_dye_21 (by decide) ?_
      refine W.widen (k := 6) (n := 36) (Nat.le_of_ble_eq_true rfl) (Nat.le_of_ble_eq_true rfl) ?_
      exact W.iret (v := 1) hx hb hr (fun t ht9 hW => ⟨congrArg (fun z => Outcome.returned (some (Value.int z))) ht.symm, fun _ => ⟨by rw [ht9]; exact hz, fun q hq => by rw [ht9]; exact ho q hq⟩, fun q => absurd (ht.symm.trans q) (by decide)⟩) hL dL_dye_22
    · refine xw_c2 (i := 2) (j := 1) (ck := 13) (cj := 20) hown htab hE.2 ⟨by decide, by decide⟩ ⟨by decide, by decide⟩ (by decide) (exOf2 ht) rfl ⟨rfl, by decide⟩ ⟨rfl, by decide⟩ ck13 ck20 hce hcv hcl ?_
      refine lv_astore (lv' := [(7, .ref q9), (0, .ref (ad 0 0)), (1, .int p0), (2, .int p1), (3, .int p2), (4, .int p3), (5, .int p4), (6, .ref ou)]) hx hb dL_dye_23 hl (by decide) rfl (fun ls hl => ?_)
      refine lv_iconst (v := 2) hx hb dL_dye_25 (by decide) ?_
      refine W.widen (k := 6) (n := 36) (Nat.le_of_ble_eq_true rfl) (Nat.le_of_ble_eq_true rfl) ?_
      exact W.iret (v := 2) hx hb hr (fun t ht9 hW => ⟨congrArg (fun z => Outcome.returned (some (Value.int z))) ht.symm, fun _ => ⟨by rw [ht9]; exact hz, fun q hq => by rw [ht9]; exact ho q hq⟩, fun q => absurd (ht.symm.trans q) (by decide)⟩) hL dL_dye_26
    · refine xw_c3 (i := 4) (j := 2) (k := 1) (ck := 53) (cj := 13) (cz := 20) hown htab hE.2 ⟨by decide, by decide⟩ ⟨by decide, by decide⟩ ⟨by decide, by decide⟩ ⟨by decide, by decide⟩ (exOf3 ht) rfl ⟨rfl, by decide⟩ ⟨rfl, by decide⟩ ⟨rfl, by decide⟩ ck53 ck13 ck20 hce hcv hcl ?_
      refine lv_astore (lv' := [(7, .ref q9), (0, .ref (ad 0 0)), (1, .int p0), (2, .int p1), (3, .int p2), (4, .int p3), (5, .int p4), (6, .ref ou)]) hx hb dL_dye_27 hl (by decide) rfl (fun ls hl => ?_)
      refine lv_iconst (v := 3) hx hb dL_dye_29 (by decide) ?_
      refine W.widen (k := 6) (n := 36) (Nat.le_of_ble_eq_true rfl) (Nat.le_of_ble_eq_true rfl) ?_
      exact W.iret (v := 3) hx hb hr (fun t ht9 hW => ⟨congrArg (fun z => Outcome.returned (some (Value.int z))) ht.symm, fun _ => ⟨by rw [ht9]; exact hz, fun q hq => by rw [ht9]; exact ho q hq⟩, fun q => absurd (ht.symm.trans q) (by decide)⟩) hL dL_dye_30
set_option maxHeartbeats 4000000 in
set_option maxRecDepth 100000 in
theorem qL_clean (la : Launch) (hst : la.stackTraces = false) (g : EG) (lo : Nat) (ad : Nat → Nat → Nat) (σ : Sg) (u : Nat → Int64) (τ : Sg) (hI : INV σ) (hA : XA lo ad σ) (ou : Nat) (hlo : lo ≤ ou) (hO : ¬ xown ad σ ou) (p0 : Int32) : Met la yL_clean wsL_clean ({ frames := 8, cells := 1, slots := 6, locals := 144 } : Room) (va_Pc [.ref (ad 0 0), .int p0, .ref ou] (fun U => XR g ad σ u τ U.heap ∧ OUTL g ou U.heap ∧ EL g lo U)) (QW ou (tV σ p0) (fun H0 Hm => (XR g ad (F_clean σ p0) u τ Hm) ∧ H0.size ≤ Hm.size ∧ ∀ q, q < H0.size → ¬ xown ad σ q → Hm[q]? = H0[q]?) (ANL g ou ((σ 25 (ti p0) + 3).toInt64))) 1 6 (fun q => lo ≤ q) := by
  refine met_ofWH (cc := cL_clean) (maxL := 4) (ret := (some .int)) (by decide) rfl ?_
  intro p e s m args below meth c s₁ B hml hv
  obtain ⟨rfl, hX, ⟨f9, hof⟩, hE⟩ := hv
  have hK := hE.1.1.1
  have hx := B.exec
  have hb := B.bytes
  have hr := B.returns
  have hts := atoms_spec (ws := wsL_clean) B.pre
  have hown : s.vm.findClass RL = some m.cls := findClass_of_methodNamed B.named
  have hlocks := B.notSynchronized
  have htab : c.exceptionTable.toList = [⟨0, 9, 12, 20⟩] := vx_table (x := yL_clean) B (hts (.codeWith yL_clean cL_clean 4 (some .int) [(0, 9, 12, 20)]) List.mem_cons_self)
  have ck20 := hts (.classLink RL 20 (en 1)) (by decide +kernel)
  have hl := lv_entry ([.ref (ad 0 0), .int p0, .ref ou]) (n := 4) (Nat.le_of_ble_eq_true rfl)
  rw [lg_entry_eq]
  generalize (lg_sl ([.ref (ad 0 0), .int p0, .ref ou]) ++ List.replicate (4 - (lg_sl ([.ref (ad 0 0), .int p0, .ref ou])).length) Slot.unset).toArray = ls at hl ⊢
  have hl : lv_has ls 4 [(0, .ref (ad 0 0)), (1, .int p0), (2, .ref ou)] := hl
  refine lv_aload_n hx hb dL_clean_0 rfl (lv_at hl 2 rfl) ?_
  refine lv_iconst (v := 0) hx hb dL_clean_1 (by decide) ?_
  refine lv_aload_n hx hb dL_clean_2 rfl (lv_at hl 0 rfl) ?_
  refine lv_iload_n hx hb dL_clean_3 rfl (lv_at hl 1 rfl) ?_
  refine xw_v (n := 1) (As := [.int p0]) (rest := [.int 0, .ref ou]) (G := (fun Hm => (XR g ad (F_clean σ p0) u τ Hm) ∧ s.heap.size ≤ Hm.size ∧ ∀ q, q < s.heap.size → ¬ xown ad σ q → Hm[q]? = s.heap[q]?)) ⟨hx, hb, hml, hown, hts⟩ hE hX (qX6_clean la hst g lo ad σ u τ hI hA p0) (fun U hU hEU => ⟨by rw [hU]; exact hX, hEU.1.1⟩) (fun U a g9 mk q => ⟨q.1, q.2.calling g9 mk a⟩) (fun a st oc t h0 hq => ⟨hq.1, hq.2.1, hq.2.2.1, by rw [← h0]; exact hq.2.2.2.1, fun q q1 q2 => by rw [← h0]; exact hq.2.2.2.2 q (by rw [h0]; exact q1) q2⟩) gL_clean_X6_clean rfl rfl rfl (by decide +kernel) ⟨Nat.le_of_ble_eq_true rfl, Nat.le_of_ble_eq_true rfl⟩ rfl hl.1 rfl (Nat.le_of_ble_eq_true rfl) dL_clean_4 ⟨Nat.le_of_ble_eq_true rfl, Nat.le_of_ble_eq_true rfl⟩ (fun H1 L hex hG hL => ?_) (fun H1 L q9 ce hex hz ho hce hcv hcl hL => ?_)
  · have ht : (tV σ p0) = 0 := exOfz (by decide) (tc_clean σ p0) hex
    obtain ⟨hP, hgz, hk⟩ := hG
    have hof := hof.kept (hk _ hof.lt hO)
    refine lv_i2l hx hb dL_clean_7 rfl ?_
    refine sp_last hx hb hK 2 hof rfl (vin_dec (by decide +kernel)) dL_clean_8 (fun H2 j h1 h2 h3 => ?_)
    rw [show (0 : Int32).toNatClampNeg = 0 from ti_0] at h1
    refine lv_goto (tgt := 15) hx hb dL_clean_9 (by decide) ?_
    refine lv_iconst (v := 0) hx hb dL_clean_15 (by decide) ?_
    refine W.widen (k := 1) (n := 6) (Nat.le_of_ble_eq_true rfl) (Nat.le_of_ble_eq_true rfl) ?_
    exact W.iret (v := 0) hx hb hr (fun t ht9 hW => ⟨congrArg (fun z => Outcome.returned (some (Value.int z))) ht.symm, fun q => absurd ht q, fun _ => ⟨_, ⟨hP, hgz, hk⟩, by rw [ht9]; exact h2, fun q hq => by rw [ht9]; exact h3 q hq, by rw [ht9]; exact ⟨_, h1, pk_uLs⟩⟩⟩) (fun z hz => (List.mem_append.mp hz).elim (hL z) (fun h => by rw [List.mem_singleton.mp h]; exact hlo)) dL_clean_16
  · rcases tc_clean σ p0 with ht | ht | ⟨ht, hw9⟩ | ⟨ht, hw9⟩
    · exact absurd ht (exOf0 hex)
    · refine xw_c1 (i := 1) (ck := 20) hown htab hE.2 ⟨by decide, by decide⟩ (exOf1 ht) rfl ⟨rfl, by decide⟩ ck20 hce hcv hcl ?_
      refine lv_astore_n (lv' := [(3, .ref q9), (0, .ref (ad 0 0)), (1, .int p0), (2, .ref ou)]) hx hb dL_clean_12 rfl hl (by decide) rfl (fun ls hl => ?_)
      refine lv_iconst (v := 1) hx hb dL_clean_13 (by decide) ?_
      refine W.widen (k := 1) (n := 6) (Nat.le_of_ble_eq_true rfl) (Nat.le_of_ble_eq_true rfl) ?_
      exact W.iret (v := 1) hx hb hr (fun t ht9 hW => ⟨congrArg (fun z => Outcome.returned (some (Value.int z))) ht.symm, fun _ => ⟨by rw [ht9]; exact hz, fun q hq => by rw [ht9]; exact ho q hq⟩, fun q => absurd (ht.symm.trans q) (by decide)⟩) hL dL_clean_14
    · exact absurd rfl hw9
    · exact absurd rfl hw9
set_option maxHeartbeats 4000000 in
set_option maxRecDepth 100000 in
theorem qL_verdict (la : Launch) (hst : la.stackTraces = false) (g : EG) (lo : Nat) (ad : Nat → Nat → Nat) (σ : Sg) (u : Nat → Int64) (τ : Sg) (hI : INV σ) (hA : XA lo ad σ) (ou : Nat) (hlo : lo ≤ ou) (hO : ¬ xown ad σ ou) (p0 : Int32) : Met la yL_verdict wsL_verdict ({ frames := 9, cells := 2, slots := 12, locals := 165 } : Room) (va_Pc [.ref (ad 0 0), .int p0, .ref ou] (fun U => XR g ad σ u τ U.heap ∧ OUTL g ou U.heap ∧ EL g lo U)) (QW ou (tN σ p0 100) (fun H0 Hm => Hm = H0) (ANL g ou ((f_judged σ p0).toInt64))) 2 12 (fun q => lo ≤ q) := by
  refine met_ofWH (cc := cL_verdict) (maxL := 4) (ret := (some .int)) (by decide) rfl ?_
  intro p e s m args below meth c s₁ B hml hv
  obtain ⟨rfl, hX, ⟨f9, hof⟩, hE⟩ := hv
  have hK := hE.1.1.1
  have hx := B.exec
  have hb := B.bytes
  have hr := B.returns
  have hts := atoms_spec (ws := wsL_verdict) B.pre
  have hown : s.vm.findClass RL = some m.cls := findClass_of_methodNamed B.named
  have hlocks := B.notSynchronized
  have htab : c.exceptionTable.toList = [⟨0, 9, 12, 20⟩, ⟨0, 9, 15, 15⟩] := vx_table (x := yL_verdict) B (hts (.codeWith yL_verdict cL_verdict 4 (some .int) [(0, 9, 12, 20), (0, 9, 15, 15)]) List.mem_cons_self)
  have ck15 := hts (.classLink RL 15 (en 3)) (by decide +kernel)
  have ck20 := hts (.classLink RL 20 (en 1)) (by decide +kernel)
  have hl := lv_entry ([.ref (ad 0 0), .int p0, .ref ou]) (n := 4) (Nat.le_of_ble_eq_true rfl)
  rw [lg_entry_eq]
  generalize (lg_sl ([.ref (ad 0 0), .int p0, .ref ou]) ++ List.replicate (4 - (lg_sl ([.ref (ad 0 0), .int p0, .ref ou])).length) Slot.unset).toArray = ls at hl ⊢
  have hl : lv_has ls 4 [(0, .ref (ad 0 0)), (1, .int p0), (2, .ref ou)] := hl
  refine lv_aload_n hx hb dL_verdict_0 rfl (lv_at hl 2 rfl) ?_
  refine lv_iconst (v := 0) hx hb dL_verdict_1 (by decide) ?_
  refine lv_aload_n hx hb dL_verdict_2 rfl (lv_at hl 0 rfl) ?_
  refine lv_iload_n hx hb dL_verdict_3 rfl (lv_at hl 1 rfl) ?_
  refine xw_v (n := 1) (As := [.int p0]) (rest := [.int 0, .ref ou]) (G := (fun Hm => Hm = s.heap)) ⟨hx, hb, hml, hown, hts⟩ hE hX (qX6_verdict la hst g lo ad σ u τ hI hA p0) (fun U hU hEU => ⟨by rw [hU]; exact hX, hEU.1.1⟩) (fun U a g9 mk q => ⟨q.1, q.2.calling g9 mk a⟩) (fun a st oc t h0 hq => ⟨hq.1, hq.2.1, hq.2.2.trans h0⟩) gL_verdict_X6_verdict rfl rfl rfl (by decide +kernel) ⟨Nat.le_of_ble_eq_true rfl, Nat.le_of_ble_eq_true rfl⟩ rfl hl.1 rfl (Nat.le_of_ble_eq_true rfl) dL_verdict_4 ⟨Nat.le_of_ble_eq_true rfl, Nat.le_of_ble_eq_true rfl⟩ (fun H1 L hex hG hL => ?_) (fun H1 L q9 ce hex hz ho hce hcv hcl hL => ?_)
  · have ht : (tN σ p0 100) = 0 := exOfz (by decide) (tc_verdict σ p0) hex
    replace hG : H1 = s.heap := hG
    subst hG
    refine lv_i2l hx hb dL_verdict_7 rfl ?_
    refine sp_last hx hb hK 2 hof rfl (vin_dec (by decide +kernel)) dL_verdict_8 (fun H2 j h1 h2 h3 => ?_)
    rw [show (0 : Int32).toNatClampNeg = 0 from ti_0] at h1
    refine lv_goto (tgt := 18) hx hb dL_verdict_9 (by decide) ?_
    refine lv_iconst (v := 0) hx hb dL_verdict_18 (by decide) ?_
    refine W.widen (k := 2) (n := 12) (Nat.le_of_ble_eq_true rfl) (Nat.le_of_ble_eq_true rfl) ?_
    exact W.iret (v := 0) hx hb hr (fun t ht9 hW => ⟨congrArg (fun z => Outcome.returned (some (Value.int z))) ht.symm, fun q => absurd ht q, fun _ => ⟨_, rfl, by rw [ht9]; exact h2, fun q hq => by rw [ht9]; exact h3 q hq, by rw [ht9]; exact ⟨_, h1, pk_uLs⟩⟩⟩) (fun z hz => (List.mem_append.mp hz).elim (fun h => (hL z h).elim) (fun h => by rw [List.mem_singleton.mp h]; exact hlo)) dL_verdict_19
  · rcases tc_verdict σ p0 with ht | ht | ⟨ht, hw9⟩ | ⟨ht, hw9⟩
    · exact absurd ht (exOf0 hex)
    · refine xw_c1 (i := 1) (ck := 20) hown htab hE.2 ⟨by decide, by decide⟩ (exOf1 ht) rfl ⟨rfl, by decide⟩ ck20 hce hcv hcl ?_
      refine lv_astore_n (lv' := [(3, .ref q9), (0, .ref (ad 0 0)), (1, .int p0), (2, .ref ou)]) hx hb dL_verdict_12 rfl hl (by decide) rfl (fun ls hl => ?_)
      refine lv_iconst (v := 1) hx hb dL_verdict_13 (by decide) ?_
      refine W.widen (k := 2) (n := 12) (Nat.le_of_ble_eq_true rfl) (Nat.le_of_ble_eq_true rfl) ?_
      exact W.iret (v := 1) hx hb hr (fun t ht9 hW => ⟨congrArg (fun z => Outcome.returned (some (Value.int z))) ht.symm, fun _ => ⟨by rw [ht9]; exact hz, fun q hq => by rw [ht9]; exact ho q hq⟩, fun q => absurd (ht.symm.trans q) (by decide)⟩) (fun z h => (hL z h).elim) dL_verdict_14
    · refine xw_c2 (i := 3) (j := 1) (ck := 15) (cj := 20) hown htab hE.2 ⟨by decide, by decide⟩ ⟨by decide, by decide⟩ (by decide) (exOf2 ht) rfl ⟨rfl, by decide⟩ ⟨rfl, by decide⟩ ck15 ck20 hce hcv hcl ?_
      refine lv_astore_n (lv' := [(3, .ref q9), (0, .ref (ad 0 0)), (1, .int p0), (2, .ref ou)]) hx hb dL_verdict_15 rfl hl (by decide) rfl (fun ls hl => ?_)
      refine lv_iconst (v := 2) hx hb dL_verdict_16 (by decide) ?_
      refine W.widen (k := 2) (n := 12) (Nat.le_of_ble_eq_true rfl) (Nat.le_of_ble_eq_true rfl) ?_
      exact W.iret (v := 2) hx hb hr (fun t ht9 hW => ⟨congrArg (fun z => Outcome.returned (some (Value.int z))) ht.symm, fun _ => ⟨by rw [ht9]; exact hz, fun q hq => by rw [ht9]; exact ho q hq⟩, fun q => absurd (ht.symm.trans q) (by decide)⟩) (fun z h => (hL z h).elim) dL_verdict_17
    · exact absurd rfl hw9
set_option maxHeartbeats 4000000 in
set_option maxRecDepth 100000 in
theorem qL_judge (la : Launch) (hst : la.stackTraces = false) (g : EG) (lo : Nat) (ad : Nat → Nat → Nat) (σ : Sg) (u : Nat → Int64) (τ : Sg) (hI : INV σ) (hA : XA lo ad σ) (ou : Nat) (hlo : lo ≤ ou) (hO : ¬ xown ad σ ou) (p0 : Int32) : Met la yL_judge wsL_judge ({ frames := 9, cells := 2, slots := 12, locals := 166 } : Room) (va_Pc [.ref (ad 0 0), .int p0, .ref ou] (fun U => XR g ad σ u τ U.heap ∧ OUTL g ou U.heap ∧ EL g lo U)) (QW ou (tN σ p0 100) (fun H0 Hm => (XR g ad (F_judge σ p0) u τ Hm) ∧ H0.size ≤ Hm.size ∧ ∀ q, q < H0.size → ¬ xown ad σ q → Hm[q]? = H0[q]?) (ANL g ou (if f_judged σ p0 = 112 then 1 else 0))) 2 12 (fun q => lo ≤ q) := by
  refine met_ofWH (cc := cL_judge) (maxL := 4) (ret := (some .int)) (by decide) rfl ?_
  intro p e s m args below meth c s₁ B hml hv
  obtain ⟨rfl, hX, ⟨f9, hof⟩, hE⟩ := hv
  have hK := hE.1.1.1
  have hx := B.exec
  have hb := B.bytes
  have hr := B.returns
  have hts := atoms_spec (ws := wsL_judge) B.pre
  have hown : s.vm.findClass RL = some m.cls := findClass_of_methodNamed B.named
  have hlocks := B.notSynchronized
  have htab : c.exceptionTable.toList = [⟨0, 16, 19, 20⟩, ⟨0, 16, 22, 15⟩] := vx_table (x := yL_judge) B (hts (.codeWith yL_judge cL_judge 4 (some .int) [(0, 16, 19, 20), (0, 16, 22, 15)]) List.mem_cons_self)
  have ck15 := hts (.classLink RL 15 (en 3)) (by decide +kernel)
  have ck20 := hts (.classLink RL 20 (en 1)) (by decide +kernel)
  have hl := lv_entry ([.ref (ad 0 0), .int p0, .ref ou]) (n := 4) (Nat.le_of_ble_eq_true rfl)
  rw [lg_entry_eq]
  generalize (lg_sl ([.ref (ad 0 0), .int p0, .ref ou]) ++ List.replicate (4 - (lg_sl ([.ref (ad 0 0), .int p0, .ref ou])).length) Slot.unset).toArray = ls at hl ⊢
  have hl : lv_has ls 4 [(0, .ref (ad 0 0)), (1, .int p0), (2, .ref ou)] := hl
  refine lv_aload_n hx hb dL_judge_0 rfl (lv_at hl 2 rfl) ?_
  refine lv_iconst (v := 0) hx hb dL_judge_1 (by decide) ?_
  refine lv_aload_n hx hb dL_judge_2 rfl (lv_at hl 0 rfl) ?_
  refine lv_iload_n hx hb dL_judge_3 rfl (lv_at hl 1 rfl) ?_
  refine xw_v (n := 1) (As := [.int p0]) (rest := [.int 0, .ref ou]) (G := (fun Hm => (XR g ad (F_judge σ p0) u τ Hm) ∧ s.heap.size ≤ Hm.size ∧ ∀ q, q < s.heap.size → ¬ xown ad σ q → Hm[q]? = s.heap[q]?)) ⟨hx, hb, hml, hown, hts⟩ hE hX (qX6_judge la hst g lo ad σ u τ hI hA p0) (fun U hU hEU => ⟨by rw [hU]; exact hX, hEU.1.1⟩) (fun U a g9 mk q => ⟨q.1, q.2.calling g9 mk a⟩) (fun a st oc t h0 hq => ⟨hq.1, hq.2.1, hq.2.2.1, by rw [← h0]; exact hq.2.2.2.1, fun q q1 q2 => by rw [← h0]; exact hq.2.2.2.2 q (by rw [h0]; exact q1) q2⟩) gL_judge_X6_judge rfl rfl rfl (by decide +kernel) ⟨Nat.le_of_ble_eq_true rfl, Nat.le_of_ble_eq_true rfl⟩ rfl hl.1 rfl (Nat.le_of_ble_eq_true rfl) dL_judge_4 ⟨Nat.le_of_ble_eq_true rfl, Nat.le_of_ble_eq_true rfl⟩ (fun H1 L hex hG hL => ?_) (fun H1 L q9 ce hex hz ho hce hcv hcl hL => ?_)
  · have ht : (tN σ p0 100) = 0 := exOfz (by decide) (tc_judge σ p0) hex
    obtain ⟨hP, hgz, hk⟩ := hG
    have hof := hof.kept (hk _ hof.lt hO)
    refine br_if_eq (c9 := f_judged σ p0 = 112) (tgt := 14) hx hb dL_judge_7 (by decide) (fun c_1 => ?_) (fun c_1 => ?_)
    · refine lv_lconst (v := 0) hx hb dL_judge_14 (by decide) ?_
      refine sp_last hx hb hK 2 hof rfl (vin_dec (by decide +kernel)) dL_judge_15 (fun H2 j h1 h2 h3 => ?_)
      rw [show (0 : Int32).toNatClampNeg = 0 from ti_0] at h1
      refine lv_goto (tgt := 25) hx hb dL_judge_16 (by decide) ?_
      refine lv_iconst (v := 0) hx hb dL_judge_25 (by decide) ?_
      refine W.widen (k := 2) (n := 12) (Nat.le_of_ble_eq_true rfl) (Nat.le_of_ble_eq_true rfl) ?_
      exact W.iret (v := 0) hx hb hr (fun t ht9 hW => ⟨congrArg (fun z => Outcome.returned (some (Value.int z))) ht.symm, fun q => absurd ht q, fun _ => ⟨_, ⟨hP, hgz, hk⟩, by rw [ht9]; exact h2, fun q hq => by rw [ht9]; exact h3 q hq, by rw [ht9]; exact ⟨_, h1, pk_uLs.trans (if_neg c_1).symm⟩⟩⟩) (fun z hz => (List.mem_append.mp hz).elim (hL z) (fun h => by rw [List.mem_singleton.mp h]; exact hlo)) dL_judge_26
    · refine lv_lconst (v := 1) hx hb dL_judge_10 (by decide) ?_
      refine lv_goto (tgt := 15) hx hb dL_judge_11 (by decide) ?_
      refine sp_last hx hb hK 2 hof rfl (vin_dec (by decide +kernel)) dL_judge_15 (fun H2 j h1 h2 h3 => ?_)
      rw [show (0 : Int32).toNatClampNeg = 0 from ti_0] at h1
      refine lv_goto (tgt := 25) hx hb dL_judge_16 (by decide) ?_
      refine lv_iconst (v := 0) hx hb dL_judge_25 (by decide) ?_
      refine W.widen (k := 2) (n := 12) (Nat.le_of_ble_eq_true rfl) (Nat.le_of_ble_eq_true rfl) ?_
      exact W.iret (v := 0) hx hb hr (fun t ht9 hW => ⟨congrArg (fun z => Outcome.returned (some (Value.int z))) ht.symm, fun q => absurd ht q, fun _ => ⟨_, ⟨hP, hgz, hk⟩, by rw [ht9]; exact h2, fun q hq => by rw [ht9]; exact h3 q hq, by rw [ht9]; exact ⟨_, h1, pk_uLs.trans (if_pos c_1).symm⟩⟩⟩) (fun z hz => (List.mem_append.mp hz).elim (hL z) (fun h => by rw [List.mem_singleton.mp h]; exact hlo)) dL_judge_26
  · rcases tc_judge σ p0 with ht | ht | ⟨ht, hw9⟩ | ⟨ht, hw9⟩
    · exact absurd ht (exOf0 hex)
    · refine xw_c1 (i := 1) (ck := 20) hown htab hE.2 ⟨by decide, by decide⟩ (exOf1 ht) rfl ⟨rfl, by decide⟩ ck20 hce hcv hcl ?_
      refine lv_astore_n (lv' := [(3, .ref q9), (0, .ref (ad 0 0)), (1, .int p0), (2, .ref ou)]) hx hb dL_judge_19 rfl hl (by decide) rfl (fun ls hl => ?_)
      refine lv_iconst (v := 1) hx hb dL_judge_20 (by decide) ?_
      refine W.widen (k := 2) (n := 12) (Nat.le_of_ble_eq_true rfl) (Nat.le_of_ble_eq_true rfl) ?_
      exact W.iret (v := 1) hx hb hr (fun t ht9 hW => ⟨congrArg (fun z => Outcome.returned (some (Value.int z))) ht.symm, fun _ => ⟨by rw [ht9]; exact hz, fun q hq => by rw [ht9]; exact ho q hq⟩, fun q => absurd (ht.symm.trans q) (by decide)⟩) hL dL_judge_21
    · refine xw_c2 (i := 3) (j := 1) (ck := 15) (cj := 20) hown htab hE.2 ⟨by decide, by decide⟩ ⟨by decide, by decide⟩ (by decide) (exOf2 ht) rfl ⟨rfl, by decide⟩ ⟨rfl, by decide⟩ ck15 ck20 hce hcv hcl ?_
      refine lv_astore_n (lv' := [(3, .ref q9), (0, .ref (ad 0 0)), (1, .int p0), (2, .ref ou)]) hx hb dL_judge_22 rfl hl (by decide) rfl (fun ls hl => ?_)
      refine lv_iconst (v := 2) hx hb dL_judge_23 (by decide) ?_
      refine W.widen (k := 2) (n := 12) (Nat.le_of_ble_eq_true rfl) (Nat.le_of_ble_eq_true rfl) ?_
      exact W.iret (v := 2) hx hb hr (fun t ht9 hW => ⟨congrArg (fun z => Outcome.returned (some (Value.int z))) ht.symm, fun _ => ⟨by rw [ht9]; exact hz, fun q hq => by rw [ht9]; exact ho q hq⟩, fun q => absurd (ht.symm.trans q) (by decide)⟩) hL dL_judge_24
    · exact absurd rfl hw9
set_option maxHeartbeats 4000000 in
set_option maxRecDepth 100000 in
theorem qL_again (la : Launch) (hst : la.stackTraces = false) (g : EG) (lo : Nat) (ad : Nat → Nat → Nat) (σ : Sg) (u : Nat → Int64) (τ : Sg) (hI : INV σ) (hA : XA lo ad σ) (ou : Nat) (hlo : lo ≤ ou) (hO : ¬ xown ad σ ou) (p0 : Int32) : Met la yL_again wsL_again ({ frames := 8, cells := 2, slots := 12, locals := 144 } : Room) (va_Pc [.ref (ad 0 0), .int p0, .ref ou] (fun U => XR g ad σ u τ U.heap ∧ OUTL g ou U.heap ∧ EL g lo U)) (QW ou (tN σ p0 120) (fun H0 Hm => (XR g ad (F_again σ p0) u τ Hm) ∧ H0.size ≤ Hm.size ∧ ∀ q, q < H0.size → ¬ xown ad σ q → Hm[q]? = H0[q]?) (ANL g ou ((f_waiting (up (up σ 0 0 0) 21 (ti p0) 119)).toInt64))) 2 12 (fun q => lo ≤ q) := by
  refine met_ofWH (cc := cL_again) (maxL := 4) (ret := (some .int)) (by decide) rfl ?_
  intro p e s m args below meth c s₁ B hml hv
  obtain ⟨rfl, hX, ⟨f9, hof⟩, hE⟩ := hv
  have hK := hE.1.1.1
  have hx := B.exec
  have hb := B.bytes
  have hr := B.returns
  have hts := atoms_spec (ws := wsL_again) B.pre
  have hown : s.vm.findClass RL = some m.cls := findClass_of_methodNamed B.named
  have hlocks := B.notSynchronized
  have htab : c.exceptionTable.toList = [⟨0, 9, 12, 20⟩, ⟨0, 9, 15, 15⟩] := vx_table (x := yL_again) B (hts (.codeWith yL_again cL_again 4 (some .int) [(0, 9, 12, 20), (0, 9, 15, 15)]) List.mem_cons_self)
  have ck15 := hts (.classLink RL 15 (en 3)) (by decide +kernel)
  have ck20 := hts (.classLink RL 20 (en 1)) (by decide +kernel)
  have hl := lv_entry ([.ref (ad 0 0), .int p0, .ref ou]) (n := 4) (Nat.le_of_ble_eq_true rfl)
  rw [lg_entry_eq]
  generalize (lg_sl ([.ref (ad 0 0), .int p0, .ref ou]) ++ List.replicate (4 - (lg_sl ([.ref (ad 0 0), .int p0, .ref ou])).length) Slot.unset).toArray = ls at hl ⊢
  have hl : lv_has ls 4 [(0, .ref (ad 0 0)), (1, .int p0), (2, .ref ou)] := hl
  refine lv_aload_n hx hb dL_again_0 rfl (lv_at hl 2 rfl) ?_
  refine lv_iconst (v := 0) hx hb dL_again_1 (by decide) ?_
  refine lv_aload_n hx hb dL_again_2 rfl (lv_at hl 0 rfl) ?_
  refine lv_iload_n hx hb dL_again_3 rfl (lv_at hl 1 rfl) ?_
  refine xw_v (n := 1) (As := [.int p0]) (rest := [.int 0, .ref ou]) (G := (fun Hm => (XR g ad (F_again σ p0) u τ Hm) ∧ s.heap.size ≤ Hm.size ∧ ∀ q, q < s.heap.size → ¬ xown ad σ q → Hm[q]? = s.heap[q]?)) ⟨hx, hb, hml, hown, hts⟩ hE hX (qX6_again la hst g lo ad σ u τ hI hA p0) (fun U hU hEU => ⟨by rw [hU]; exact hX, hEU.1.1⟩) (fun U a g9 mk q => ⟨q.1, q.2.calling g9 mk a⟩) (fun a st oc t h0 hq => ⟨hq.1, hq.2.1, hq.2.2.1, by rw [← h0]; exact hq.2.2.2.1, fun q q1 q2 => by rw [← h0]; exact hq.2.2.2.2 q (by rw [h0]; exact q1) q2⟩) gL_again_X6_again rfl rfl rfl (by decide +kernel) ⟨Nat.le_of_ble_eq_true rfl, Nat.le_of_ble_eq_true rfl⟩ rfl hl.1 rfl (Nat.le_of_ble_eq_true rfl) dL_again_4 ⟨Nat.le_of_ble_eq_true rfl, Nat.le_of_ble_eq_true rfl⟩ (fun H1 L hex hG hL => ?_) (fun H1 L q9 ce hex hz ho hce hcv hcl hL => ?_)
  · have ht : (tN σ p0 120) = 0 := exOfz (by decide) (tc_again σ p0) hex
    obtain ⟨hP, hgz, hk⟩ := hG
    have hof := hof.kept (hk _ hof.lt hO)
    refine lv_i2l hx hb dL_again_7 rfl ?_
    refine sp_last hx hb hK 2 hof rfl (vin_dec (by decide +kernel)) dL_again_8 (fun H2 j h1 h2 h3 => ?_)
    rw [show (0 : Int32).toNatClampNeg = 0 from ti_0] at h1
    refine lv_goto (tgt := 18) hx hb dL_again_9 (by decide) ?_
    refine lv_iconst (v := 0) hx hb dL_again_18 (by decide) ?_
    refine W.widen (k := 2) (n := 12) (Nat.le_of_ble_eq_true rfl) (Nat.le_of_ble_eq_true rfl) ?_
    exact W.iret (v := 0) hx hb hr (fun t ht9 hW => ⟨congrArg (fun z => Outcome.returned (some (Value.int z))) ht.symm, fun q => absurd ht q, fun _ => ⟨_, ⟨hP, hgz, hk⟩, by rw [ht9]; exact h2, fun q hq => by rw [ht9]; exact h3 q hq, by rw [ht9]; exact ⟨_, h1, pk_uLs⟩⟩⟩) (fun z hz => (List.mem_append.mp hz).elim (hL z) (fun h => by rw [List.mem_singleton.mp h]; exact hlo)) dL_again_19
  · rcases tc_again σ p0 with ht | ht | ⟨ht, hw9⟩ | ⟨ht, hw9⟩
    · exact absurd ht (exOf0 hex)
    · refine xw_c1 (i := 1) (ck := 20) hown htab hE.2 ⟨by decide, by decide⟩ (exOf1 ht) rfl ⟨rfl, by decide⟩ ck20 hce hcv hcl ?_
      refine lv_astore_n (lv' := [(3, .ref q9), (0, .ref (ad 0 0)), (1, .int p0), (2, .ref ou)]) hx hb dL_again_12 rfl hl (by decide) rfl (fun ls hl => ?_)
      refine lv_iconst (v := 1) hx hb dL_again_13 (by decide) ?_
      refine W.widen (k := 2) (n := 12) (Nat.le_of_ble_eq_true rfl) (Nat.le_of_ble_eq_true rfl) ?_
      exact W.iret (v := 1) hx hb hr (fun t ht9 hW => ⟨congrArg (fun z => Outcome.returned (some (Value.int z))) ht.symm, fun _ => ⟨by rw [ht9]; exact hz, fun q hq => by rw [ht9]; exact ho q hq⟩, fun q => absurd (ht.symm.trans q) (by decide)⟩) hL dL_again_14
    · refine xw_c2 (i := 3) (j := 1) (ck := 15) (cj := 20) hown htab hE.2 ⟨by decide, by decide⟩ ⟨by decide, by decide⟩ (by decide) (exOf2 ht) rfl ⟨rfl, by decide⟩ ⟨rfl, by decide⟩ ck15 ck20 hce hcv hcl ?_
      refine lv_astore_n (lv' := [(3, .ref q9), (0, .ref (ad 0 0)), (1, .int p0), (2, .ref ou)]) hx hb dL_again_15 rfl hl (by decide) rfl (fun ls hl => ?_)
      refine lv_iconst (v := 2) hx hb dL_again_16 (by decide) ?_
      refine W.widen (k := 2) (n := 12) (Nat.le_of_ble_eq_true rfl) (Nat.le_of_ble_eq_true rfl) ?_
      exact W.iret (v := 2) hx hb hr (fun t ht9 hW => ⟨congrArg (fun z => Outcome.returned (some (Value.int z))) ht.symm, fun _ => ⟨by rw [ht9]; exact hz, fun q hq => by rw [ht9]; exact ho q hq⟩, fun q => absurd (ht.symm.trans q) (by decide)⟩) hL dL_again_17
    · exact absurd rfl hw9
set_option maxHeartbeats 4000000 in
set_option maxRecDepth 100000 in
theorem qL_plan (la : Launch) (hst : la.stackTraces = false) (g : EG) (lo : Nat) (ad : Nat → Nat → Nat) (σ : Sg) (u : Nat → Int64) (τ : Sg) (hI : INV σ) (hA : XA lo ad σ) (ou : Nat) (hlo : lo ≤ ou) (hO : ¬ xown ad σ ou) (p0 p1 : Int32) : Met la yL_plan wsL_plan ({ frames := 8, cells := 3, slots := 18, locals := 147 } : Room) (va_Pc [.ref (ad 0 0), .int p0, .int p1, .ref ou] (fun U => XR g ad σ u τ U.heap ∧ OUTL g ou U.heap ∧ EL g lo U)) (QW ou (t_plan σ p0 p1) (fun H0 Hm => (XR g ad (F_plan σ p0 p1) u τ Hm) ∧ H0.size ≤ Hm.size ∧ ∀ q, q < H0.size → ¬ xown ad σ q → Hm[q]? = H0[q]?) (ANL g ou ((f_inPlan σ p1 + 1).toInt64))) 3 18 (fun q => lo ≤ q) := by
  refine met_ofWH (cc := cL_plan) (maxL := 5) (ret := (some .int)) (by decide) rfl ?_
  intro p e s m args below meth c s₁ B hml hv
  obtain ⟨rfl, hX, ⟨f9, hof⟩, hE⟩ := hv
  have hK := hE.1.1.1
  have hx := B.exec
  have hb := B.bytes
  have hr := B.returns
  have hts := atoms_spec (ws := wsL_plan) B.pre
  have hown : s.vm.findClass RL = some m.cls := findClass_of_methodNamed B.named
  have hlocks := B.notSynchronized
  have htab : c.exceptionTable.toList = [⟨0, 10, 13, 20⟩, ⟨0, 10, 17, 15⟩, ⟨0, 10, 21, 53⟩] := vx_table (x := yL_plan) B (hts (.codeWith yL_plan cL_plan 5 (some .int) [(0, 10, 13, 20), (0, 10, 17, 15), (0, 10, 21, 53)]) List.mem_cons_self)
  have ck15 := hts (.classLink RL 15 (en 3)) (by decide +kernel)
  have ck20 := hts (.classLink RL 20 (en 1)) (by decide +kernel)
  have ck53 := hts (.classLink RL 53 (en 4)) (by decide +kernel)
  have hl := lv_entry ([.ref (ad 0 0), .int p0, .int p1, .ref ou]) (n := 5) (Nat.le_of_ble_eq_true rfl)
  rw [lg_entry_eq]
  generalize (lg_sl ([.ref (ad 0 0), .int p0, .int p1, .ref ou]) ++ List.replicate (5 - (lg_sl ([.ref (ad 0 0), .int p0, .int p1, .ref ou])).length) Slot.unset).toArray = ls at hl ⊢
  have hl : lv_has ls 5 [(0, .ref (ad 0 0)), (1, .int p0), (2, .int p1), (3, .ref ou)] := hl
  refine lv_aload_n hx hb dL_plan_0 rfl (lv_at hl 3 rfl) ?_
  refine lv_iconst (v := 0) hx hb dL_plan_1 (by decide) ?_
  refine lv_aload_n hx hb dL_plan_2 rfl (lv_at hl 0 rfl) ?_
  refine lv_iload_n hx hb dL_plan_3 rfl (lv_at hl 1 rfl) ?_
  refine lv_iload_n hx hb dL_plan_4 rfl (lv_at hl 2 rfl) ?_
  refine xw_v (n := 2) (As := [.int p0, .int p1]) (rest := [.int 0, .ref ou]) (G := (fun Hm => (XR g ad (F_plan σ p0 p1) u τ Hm) ∧ s.heap.size ≤ Hm.size ∧ ∀ q, q < s.heap.size → ¬ xown ad σ q → Hm[q]? = s.heap[q]?)) ⟨hx, hb, hml, hown, hts⟩ hE hX (qX6_plan la hst g lo ad σ u τ hI hA p0 p1) (fun U hU hEU => ⟨by rw [hU]; exact hX, hEU.1.1⟩) (fun U a g9 mk q => ⟨q.1, q.2.calling g9 mk a⟩) (fun a st oc t h0 hq => ⟨hq.1, hq.2.1, hq.2.2.1, by rw [← h0]; exact hq.2.2.2.1, fun q q1 q2 => by rw [← h0]; exact hq.2.2.2.2 q (by rw [h0]; exact q1) q2⟩) gL_plan_X6_plan rfl rfl rfl (by decide +kernel) ⟨Nat.le_of_ble_eq_true rfl, Nat.le_of_ble_eq_true rfl⟩ rfl hl.1 rfl (Nat.le_of_ble_eq_true rfl) dL_plan_5 ⟨Nat.le_of_ble_eq_true rfl, Nat.le_of_ble_eq_true rfl⟩ (fun H1 L hex hG hL => ?_) (fun H1 L q9 ce hex hz ho hce hcv hcl hL => ?_)
  · have ht : (t_plan σ p0 p1) = 0 := exOfz (by decide) (tc_plan σ p0 p1) hex
    obtain ⟨hP, hgz, hk⟩ := hG
    have hof := hof.kept (hk _ hof.lt hO)
    refine lv_i2l hx hb dL_plan_8 rfl ?_
    refine sp_last hx hb hK 2 hof rfl (vin_dec (by decide +kernel)) dL_plan_9 (fun H2 j h1 h2 h3 => ?_)
    rw [show (0 : Int32).toNatClampNeg = 0 from ti_0] at h1
    refine lv_goto (tgt := 25) hx hb dL_plan_10 (by decide) ?_
    refine lv_iconst (v := 0) hx hb dL_plan_25 (by decide) ?_
    refine W.widen (k := 3) (n := 18) (Nat.le_of_ble_eq_true rfl) (Nat.le_of_ble_eq_true rfl) ?_
    exact W.iret (v := 0) hx hb hr (fun t ht9 hW => ⟨congrArg (fun z => Outcome.returned (some (Value.int z))) ht.symm, fun q => absurd ht q, fun _ => ⟨_, ⟨hP, hgz, hk⟩, by rw [ht9]; exact h2, fun q hq => by rw [ht9]; exact h3 q hq, by rw [ht9]; exact ⟨_, h1, pk_uLs⟩⟩⟩) (fun z hz => (List.mem_append.mp hz).elim (hL z) (fun h => by rw [List.mem_singleton.mp h]; exact hlo)) dL_plan_26
  · rcases tc_plan σ p0 p1 with ht | ht | ⟨ht, hw9⟩ | ⟨ht, hw9⟩
    · exact absurd ht (exOf0 hex)
    · refine xw_c1 (i := 1) (ck := 20) hown htab hE.2 ⟨by decide, by decide⟩ (exOf1 ht) rfl ⟨rfl, by decide⟩ ck20 hce hcv hcl ?_
      refine lv_astore (lv' := [(4, .ref q9), (0, .ref (ad 0 0)), (1, .int p0), (2, .int p1), (3, .ref ou)]) hx hb dL_plan_13 hl (by decide) rfl (fun ls hl => ?_)
      refine lv_iconst (v := 1) hx hb dL_plan_15 (by decide) ?_
      refine W.widen (k := 3) (n := 18) (Nat.le_of_ble_eq_true rfl) (Nat.le_of_ble_eq_true rfl) ?_
      exact W.iret (v := 1) hx hb hr (fun t ht9 hW => ⟨congrArg (fun z => Outcome.returned (some (Value.int z))) ht.symm, fun _ => ⟨by rw [ht9]; exact hz, fun q hq => by rw [ht9]; exact ho q hq⟩, fun q => absurd (ht.symm.trans q) (by decide)⟩) hL dL_plan_16
    · refine xw_c2 (i := 3) (j := 1) (ck := 15) (cj := 20) hown htab hE.2 ⟨by decide, by decide⟩ ⟨by decide, by decide⟩ (by decide) (exOf2 ht) rfl ⟨rfl, by decide⟩ ⟨rfl, by decide⟩ ck15 ck20 hce hcv hcl ?_
      refine lv_astore (lv' := [(4, .ref q9), (0, .ref (ad 0 0)), (1, .int p0), (2, .int p1), (3, .ref ou)]) hx hb dL_plan_17 hl (by decide) rfl (fun ls hl => ?_)
      refine lv_iconst (v := 2) hx hb dL_plan_19 (by decide) ?_
      refine W.widen (k := 3) (n := 18) (Nat.le_of_ble_eq_true rfl) (Nat.le_of_ble_eq_true rfl) ?_
      exact W.iret (v := 2) hx hb hr (fun t ht9 hW => ⟨congrArg (fun z => Outcome.returned (some (Value.int z))) ht.symm, fun _ => ⟨by rw [ht9]; exact hz, fun q hq => by rw [ht9]; exact ho q hq⟩, fun q => absurd (ht.symm.trans q) (by decide)⟩) hL dL_plan_20
    · refine xw_c3 (i := 4) (j := 3) (k := 1) (ck := 53) (cj := 15) (cz := 20) hown htab hE.2 ⟨by decide, by decide⟩ ⟨by decide, by decide⟩ ⟨by decide, by decide⟩ ⟨by decide, by decide⟩ (exOf3 ht) rfl ⟨rfl, by decide⟩ ⟨rfl, by decide⟩ ⟨rfl, by decide⟩ ck53 ck15 ck20 hce hcv hcl ?_
      refine lv_astore (lv' := [(4, .ref q9), (0, .ref (ad 0 0)), (1, .int p0), (2, .int p1), (3, .ref ou)]) hx hb dL_plan_21 hl (by decide) rfl (fun ls hl => ?_)
      refine lv_iconst (v := 3) hx hb dL_plan_23 (by decide) ?_
      refine W.widen (k := 3) (n := 18) (Nat.le_of_ble_eq_true rfl) (Nat.le_of_ble_eq_true rfl) ?_
      exact W.iret (v := 3) hx hb hr (fun t ht9 hW => ⟨congrArg (fun z => Outcome.returned (some (Value.int z))) ht.symm, fun _ => ⟨by rw [ht9]; exact hz, fun q hq => by rw [ht9]; exact ho q hq⟩, fun q => absurd (ht.symm.trans q) (by decide)⟩) hL dL_plan_24
set_option maxHeartbeats 4000000 in
set_option maxRecDepth 100000 in
theorem qL_unplan (la : Launch) (hst : la.stackTraces = false) (g : EG) (lo : Nat) (ad : Nat → Nat → Nat) (σ : Sg) (u : Nat → Int64) (τ : Sg) (hI : INV σ) (hA : XA lo ad σ) (ou : Nat) (hlo : lo ≤ ou) (hO : ¬ xown ad σ ou) (p0 : Int32) : Met la yL_unplan wsL_unplan ({ frames := 8, cells := 2, slots := 12, locals := 145 } : Room) (va_Pc [.ref (ad 0 0), .int p0, .ref ou] (fun U => XR g ad σ u τ U.heap ∧ OUTL g ou U.heap ∧ EL g lo U)) (QW ou (t_unplan σ p0) (fun H0 Hm => (XR g ad (F_unplan σ p0) u τ Hm) ∧ H0.size ≤ Hm.size ∧ ∀ q, q < H0.size → ¬ xown ad σ q → Hm[q]? = H0[q]?) (ANL g ou ((σ 20 (ti p0)).toInt64))) 2 12 (fun q => lo ≤ q) := by
  refine met_ofWH (cc := cL_unplan) (maxL := 4) (ret := (some .int)) (by decide) rfl ?_
  intro p e s m args below meth c s₁ B hml hv
  obtain ⟨rfl, hX, ⟨f9, hof⟩, hE⟩ := hv
  have hK := hE.1.1.1
  have hx := B.exec
  have hb := B.bytes
  have hr := B.returns
  have hts := atoms_spec (ws := wsL_unplan) B.pre
  have hown : s.vm.findClass RL = some m.cls := findClass_of_methodNamed B.named
  have hlocks := B.notSynchronized
  have htab : c.exceptionTable.toList = [⟨0, 9, 12, 20⟩, ⟨0, 9, 15, 15⟩] := vx_table (x := yL_unplan) B (hts (.codeWith yL_unplan cL_unplan 4 (some .int) [(0, 9, 12, 20), (0, 9, 15, 15)]) List.mem_cons_self)
  have ck15 := hts (.classLink RL 15 (en 3)) (by decide +kernel)
  have ck20 := hts (.classLink RL 20 (en 1)) (by decide +kernel)
  have hl := lv_entry ([.ref (ad 0 0), .int p0, .ref ou]) (n := 4) (Nat.le_of_ble_eq_true rfl)
  rw [lg_entry_eq]
  generalize (lg_sl ([.ref (ad 0 0), .int p0, .ref ou]) ++ List.replicate (4 - (lg_sl ([.ref (ad 0 0), .int p0, .ref ou])).length) Slot.unset).toArray = ls at hl ⊢
  have hl : lv_has ls 4 [(0, .ref (ad 0 0)), (1, .int p0), (2, .ref ou)] := hl
  refine lv_aload_n hx hb dL_unplan_0 rfl (lv_at hl 2 rfl) ?_
  refine lv_iconst (v := 0) hx hb dL_unplan_1 (by decide) ?_
  refine lv_aload_n hx hb dL_unplan_2 rfl (lv_at hl 0 rfl) ?_
  refine lv_iload_n hx hb dL_unplan_3 rfl (lv_at hl 1 rfl) ?_
  refine xw_v (n := 1) (As := [.int p0]) (rest := [.int 0, .ref ou]) (G := (fun Hm => (XR g ad (F_unplan σ p0) u τ Hm) ∧ s.heap.size ≤ Hm.size ∧ ∀ q, q < s.heap.size → ¬ xown ad σ q → Hm[q]? = s.heap[q]?)) ⟨hx, hb, hml, hown, hts⟩ hE hX (qX6_unplan la hst g lo ad σ u τ hI hA p0) (fun U hU hEU => ⟨by rw [hU]; exact hX, hEU.1.1⟩) (fun U a g9 mk q => ⟨q.1, q.2.calling g9 mk a⟩) (fun a st oc t h0 hq => ⟨hq.1, hq.2.1, hq.2.2.1, by rw [← h0]; exact hq.2.2.2.1, fun q q1 q2 => by rw [← h0]; exact hq.2.2.2.2 q (by rw [h0]; exact q1) q2⟩) gL_unplan_X6_unplan rfl rfl rfl (by decide +kernel) ⟨Nat.le_of_ble_eq_true rfl, Nat.le_of_ble_eq_true rfl⟩ rfl hl.1 rfl (Nat.le_of_ble_eq_true rfl) dL_unplan_4 ⟨Nat.le_of_ble_eq_true rfl, Nat.le_of_ble_eq_true rfl⟩ (fun H1 L hex hG hL => ?_) (fun H1 L q9 ce hex hz ho hce hcv hcl hL => ?_)
  · have ht : (t_unplan σ p0) = 0 := exOfz (by decide) (tc_unplan σ p0) hex
    obtain ⟨hP, hgz, hk⟩ := hG
    have hof := hof.kept (hk _ hof.lt hO)
    refine lv_i2l hx hb dL_unplan_7 rfl ?_
    refine sp_last hx hb hK 2 hof rfl (vin_dec (by decide +kernel)) dL_unplan_8 (fun H2 j h1 h2 h3 => ?_)
    rw [show (0 : Int32).toNatClampNeg = 0 from ti_0] at h1
    refine lv_goto (tgt := 18) hx hb dL_unplan_9 (by decide) ?_
    refine lv_iconst (v := 0) hx hb dL_unplan_18 (by decide) ?_
    refine W.widen (k := 2) (n := 12) (Nat.le_of_ble_eq_true rfl) (Nat.le_of_ble_eq_true rfl) ?_
    exact W.iret (v := 0) hx hb hr (fun t ht9 hW => ⟨congrArg (fun z => Outcome.returned (some (Value.int z))) ht.symm, fun q => absurd ht q, fun _ => ⟨_, ⟨hP, hgz, hk⟩, by rw [ht9]; exact h2, fun q hq => by rw [ht9]; exact h3 q hq, by rw [ht9]; exact ⟨_, h1, pk_uLs⟩⟩⟩) (fun z hz => (List.mem_append.mp hz).elim (hL z) (fun h => by rw [List.mem_singleton.mp h]; exact hlo)) dL_unplan_19
  · rcases tc_unplan σ p0 with ht | ht | ⟨ht, hw9⟩ | ⟨ht, hw9⟩
    · exact absurd ht (exOf0 hex)
    · refine xw_c1 (i := 1) (ck := 20) hown htab hE.2 ⟨by decide, by decide⟩ (exOf1 ht) rfl ⟨rfl, by decide⟩ ck20 hce hcv hcl ?_
      refine lv_astore_n (lv' := [(3, .ref q9), (0, .ref (ad 0 0)), (1, .int p0), (2, .ref ou)]) hx hb dL_unplan_12 rfl hl (by decide) rfl (fun ls hl => ?_)
      refine lv_iconst (v := 1) hx hb dL_unplan_13 (by decide) ?_
      refine W.widen (k := 2) (n := 12) (Nat.le_of_ble_eq_true rfl) (Nat.le_of_ble_eq_true rfl) ?_
      exact W.iret (v := 1) hx hb hr (fun t ht9 hW => ⟨congrArg (fun z => Outcome.returned (some (Value.int z))) ht.symm, fun _ => ⟨by rw [ht9]; exact hz, fun q hq => by rw [ht9]; exact ho q hq⟩, fun q => absurd (ht.symm.trans q) (by decide)⟩) hL dL_unplan_14
    · refine xw_c2 (i := 3) (j := 1) (ck := 15) (cj := 20) hown htab hE.2 ⟨by decide, by decide⟩ ⟨by decide, by decide⟩ (by decide) (exOf2 ht) rfl ⟨rfl, by decide⟩ ⟨rfl, by decide⟩ ck15 ck20 hce hcv hcl ?_
      refine lv_astore_n (lv' := [(3, .ref q9), (0, .ref (ad 0 0)), (1, .int p0), (2, .ref ou)]) hx hb dL_unplan_15 rfl hl (by decide) rfl (fun ls hl => ?_)
      refine lv_iconst (v := 2) hx hb dL_unplan_16 (by decide) ?_
      refine W.widen (k := 2) (n := 12) (Nat.le_of_ble_eq_true rfl) (Nat.le_of_ble_eq_true rfl) ?_
      exact W.iret (v := 2) hx hb hr (fun t ht9 hW => ⟨congrArg (fun z => Outcome.returned (some (Value.int z))) ht.symm, fun _ => ⟨by rw [ht9]; exact hz, fun q hq => by rw [ht9]; exact ho q hq⟩, fun q => absurd (ht.symm.trans q) (by decide)⟩) hL dL_unplan_17
    · exact absurd rfl hw9
set_option maxHeartbeats 4000000 in
set_option maxRecDepth 100000 in
theorem qL_planned (la : Launch) (hst : la.stackTraces = false) (g : EG) (lo : Nat) (ad : Nat → Nat → Nat) (σ : Sg) (u : Nat → Int64) (τ : Sg) (hI : INV σ) (hA : XA lo ad σ) (ou : Nat) (hlo : lo ≤ ou) (hO : ¬ xown ad σ ou) (p0 : Int32) : Met la yL_planned wsL_planned ({ frames := 8, cells := 1, slots := 6, locals := 143 } : Room) (va_Pc [.ref (ad 0 0), .int p0, .ref ou] (fun U => XR g ad σ u τ U.heap ∧ OUTL g ou U.heap ∧ EL g lo U)) (QW ou (tV σ p0) (fun H0 Hm => Hm = H0) (ANL g ou ((f_inPlan σ p0).toInt64))) 1 6 (fun q => lo ≤ q) := by
  refine met_ofWH (cc := cL_planned) (maxL := 4) (ret := (some .int)) (by decide) rfl ?_
  intro p e s m args below meth c s₁ B hml hv
  obtain ⟨rfl, hX, ⟨f9, hof⟩, hE⟩ := hv
  have hK := hE.1.1.1
  have hx := B.exec
  have hb := B.bytes
  have hr := B.returns
  have hts := atoms_spec (ws := wsL_planned) B.pre
  have hown : s.vm.findClass RL = some m.cls := findClass_of_methodNamed B.named
  have hlocks := B.notSynchronized
  have htab : c.exceptionTable.toList = [⟨0, 9, 12, 20⟩] := vx_table (x := yL_planned) B (hts (.codeWith yL_planned cL_planned 4 (some .int) [(0, 9, 12, 20)]) List.mem_cons_self)
  have ck20 := hts (.classLink RL 20 (en 1)) (by decide +kernel)
  have hl := lv_entry ([.ref (ad 0 0), .int p0, .ref ou]) (n := 4) (Nat.le_of_ble_eq_true rfl)
  rw [lg_entry_eq]
  generalize (lg_sl ([.ref (ad 0 0), .int p0, .ref ou]) ++ List.replicate (4 - (lg_sl ([.ref (ad 0 0), .int p0, .ref ou])).length) Slot.unset).toArray = ls at hl ⊢
  have hl : lv_has ls 4 [(0, .ref (ad 0 0)), (1, .int p0), (2, .ref ou)] := hl
  refine lv_aload_n hx hb dL_planned_0 rfl (lv_at hl 2 rfl) ?_
  refine lv_iconst (v := 0) hx hb dL_planned_1 (by decide) ?_
  refine lv_aload_n hx hb dL_planned_2 rfl (lv_at hl 0 rfl) ?_
  refine lv_iload_n hx hb dL_planned_3 rfl (lv_at hl 1 rfl) ?_
  refine xw_v (n := 1) (As := [.int p0]) (rest := [.int 0, .ref ou]) (G := (fun Hm => Hm = s.heap)) ⟨hx, hb, hml, hown, hts⟩ hE hX (qX6_planned la hst g lo ad σ u τ hI hA p0) (fun U hU hEU => ⟨by rw [hU]; exact hX, hEU.1.1⟩) (fun U a g9 mk q => ⟨q.1, q.2.calling g9 mk a⟩) (fun a st oc t h0 hq => ⟨hq.1, hq.2.1, hq.2.2.trans h0⟩) gL_planned_X6_planned rfl rfl rfl (by decide +kernel) ⟨Nat.le_of_ble_eq_true rfl, Nat.le_of_ble_eq_true rfl⟩ rfl hl.1 rfl (Nat.le_of_ble_eq_true rfl) dL_planned_4 ⟨Nat.le_of_ble_eq_true rfl, Nat.le_of_ble_eq_true rfl⟩ (fun H1 L hex hG hL => ?_) (fun H1 L q9 ce hex hz ho hce hcv hcl hL => ?_)
  · have ht : (tV σ p0) = 0 := exOfz (by decide) (tc_planned σ p0) hex
    replace hG : H1 = s.heap := hG
    subst hG
    refine lv_i2l hx hb dL_planned_7 rfl ?_
    refine sp_last hx hb hK 2 hof rfl (vin_dec (by decide +kernel)) dL_planned_8 (fun H2 j h1 h2 h3 => ?_)
    rw [show (0 : Int32).toNatClampNeg = 0 from ti_0] at h1
    refine lv_goto (tgt := 15) hx hb dL_planned_9 (by decide) ?_
    refine lv_iconst (v := 0) hx hb dL_planned_15 (by decide) ?_
    refine W.widen (k := 1) (n := 6) (Nat.le_of_ble_eq_true rfl) (Nat.le_of_ble_eq_true rfl) ?_
    exact W.iret (v := 0) hx hb hr (fun t ht9 hW => ⟨congrArg (fun z => Outcome.returned (some (Value.int z))) ht.symm, fun q => absurd ht q, fun _ => ⟨_, rfl, by rw [ht9]; exact h2, fun q hq => by rw [ht9]; exact h3 q hq, by rw [ht9]; exact ⟨_, h1, pk_uLs⟩⟩⟩) (fun z hz => (List.mem_append.mp hz).elim (fun h => (hL z h).elim) (fun h => by rw [List.mem_singleton.mp h]; exact hlo)) dL_planned_16
  · rcases tc_planned σ p0 with ht | ht | ⟨ht, hw9⟩ | ⟨ht, hw9⟩
    · exact absurd ht (exOf0 hex)
    · refine xw_c1 (i := 1) (ck := 20) hown htab hE.2 ⟨by decide, by decide⟩ (exOf1 ht) rfl ⟨rfl, by decide⟩ ck20 hce hcv hcl ?_
      refine lv_astore_n (lv' := [(3, .ref q9), (0, .ref (ad 0 0)), (1, .int p0), (2, .ref ou)]) hx hb dL_planned_12 rfl hl (by decide) rfl (fun ls hl => ?_)
      refine lv_iconst (v := 1) hx hb dL_planned_13 (by decide) ?_
      refine W.widen (k := 1) (n := 6) (Nat.le_of_ble_eq_true rfl) (Nat.le_of_ble_eq_true rfl) ?_
      exact W.iret (v := 1) hx hb hr (fun t ht9 hW => ⟨congrArg (fun z => Outcome.returned (some (Value.int z))) ht.symm, fun _ => ⟨by rw [ht9]; exact hz, fun q hq => by rw [ht9]; exact ho q hq⟩, fun q => absurd (ht.symm.trans q) (by decide)⟩) (fun z h => (hL z h).elim) dL_planned_14
    · exact absurd rfl hw9
    · exact absurd rfl hw9
set_option maxHeartbeats 4000000 in
set_option maxRecDepth 100000 in
theorem qL_plannedAt (la : Launch) (hst : la.stackTraces = false) (g : EG) (lo : Nat) (ad : Nat → Nat → Nat) (σ : Sg) (u : Nat → Int64) (τ : Sg) (hI : INV σ) (hA : XA lo ad σ) (ou : Nat) (hlo : lo ≤ ou) (hO : ¬ xown ad σ ou) (p0 p1 : Int32) : Met la yL_plannedAt wsL_plannedAt ({ frames := 8, cells := 2, slots := 12, locals := 150 } : Room) (va_Pc [.ref (ad 0 0), .int p0, .int p1, .ref ou] (fun U => XR g ad σ u τ U.heap ∧ OUTL g ou U.heap ∧ EL g lo U)) (QW ou (t_plannedAt σ p0 p1) (fun H0 Hm => Hm = H0) (ANL g ou ((f_lotAt σ p0 p1).toInt64))) 2 12 (fun q => lo ≤ q) := by
  refine met_ofWH (cc := cL_plannedAt) (maxL := 5) (ret := (some .int)) (by decide) rfl ?_
  intro p e s m args below meth c s₁ B hml hv
  obtain ⟨rfl, hX, ⟨f9, hof⟩, hE⟩ := hv
  have hK := hE.1.1.1
  have hx := B.exec
  have hb := B.bytes
  have hr := B.returns
  have hts := atoms_spec (ws := wsL_plannedAt) B.pre
  have hown : s.vm.findClass RL = some m.cls := findClass_of_methodNamed B.named
  have hlocks := B.notSynchronized
  have htab : c.exceptionTable.toList = [⟨0, 10, 13, 20⟩, ⟨0, 10, 17, 81⟩] := vx_table (x := yL_plannedAt) B (hts (.codeWith yL_plannedAt cL_plannedAt 5 (some .int) [(0, 10, 13, 20), (0, 10, 17, 81)]) List.mem_cons_self)
  have ck20 := hts (.classLink RL 20 (en 1)) (by decide +kernel)
  have ck81 := hts (.classLink RL 81 (en 5)) (by decide +kernel)
  have hl := lv_entry ([.ref (ad 0 0), .int p0, .int p1, .ref ou]) (n := 5) (Nat.le_of_ble_eq_true rfl)
  rw [lg_entry_eq]
  generalize (lg_sl ([.ref (ad 0 0), .int p0, .int p1, .ref ou]) ++ List.replicate (5 - (lg_sl ([.ref (ad 0 0), .int p0, .int p1, .ref ou])).length) Slot.unset).toArray = ls at hl ⊢
  have hl : lv_has ls 5 [(0, .ref (ad 0 0)), (1, .int p0), (2, .int p1), (3, .ref ou)] := hl
  refine lv_aload_n hx hb dL_plannedAt_0 rfl (lv_at hl 3 rfl) ?_
  refine lv_iconst (v := 0) hx hb dL_plannedAt_1 (by decide) ?_
  refine lv_aload_n hx hb dL_plannedAt_2 rfl (lv_at hl 0 rfl) ?_
  refine lv_iload_n hx hb dL_plannedAt_3 rfl (lv_at hl 1 rfl) ?_
  refine lv_iload_n hx hb dL_plannedAt_4 rfl (lv_at hl 2 rfl) ?_
  refine xw_v (n := 2) (As := [.int p0, .int p1]) (rest := [.int 0, .ref ou]) (G := (fun Hm => Hm = s.heap)) ⟨hx, hb, hml, hown, hts⟩ hE hX (qX6_plannedAt la hst g lo ad σ u τ hI hA p0 p1) (fun U hU hEU => ⟨by rw [hU]; exact hX, hEU.1.1⟩) (fun U a g9 mk q => ⟨q.1, q.2.calling g9 mk a⟩) (fun a st oc t h0 hq => ⟨hq.1, hq.2.1, hq.2.2.trans h0⟩) gL_plannedAt_X6_plannedAt rfl rfl rfl (by decide +kernel) ⟨Nat.le_of_ble_eq_true rfl, Nat.le_of_ble_eq_true rfl⟩ rfl hl.1 rfl (Nat.le_of_ble_eq_true rfl) dL_plannedAt_5 ⟨Nat.le_of_ble_eq_true rfl, Nat.le_of_ble_eq_true rfl⟩ (fun H1 L hex hG hL => ?_) (fun H1 L q9 ce hex hz ho hce hcv hcl hL => ?_)
  · have ht : (t_plannedAt σ p0 p1) = 0 := exOfz (by decide) (tc_plannedAt σ p0 p1) hex
    replace hG : H1 = s.heap := hG
    subst hG
    refine lv_i2l hx hb dL_plannedAt_8 rfl ?_
    refine sp_last hx hb hK 2 hof rfl (vin_dec (by decide +kernel)) dL_plannedAt_9 (fun H2 j h1 h2 h3 => ?_)
    rw [show (0 : Int32).toNatClampNeg = 0 from ti_0] at h1
    refine lv_goto (tgt := 21) hx hb dL_plannedAt_10 (by decide) ?_
    refine lv_iconst (v := 0) hx hb dL_plannedAt_21 (by decide) ?_
    refine W.widen (k := 2) (n := 12) (Nat.le_of_ble_eq_true rfl) (Nat.le_of_ble_eq_true rfl) ?_
    exact W.iret (v := 0) hx hb hr (fun t ht9 hW => ⟨congrArg (fun z => Outcome.returned (some (Value.int z))) ht.symm, fun q => absurd ht q, fun _ => ⟨_, rfl, by rw [ht9]; exact h2, fun q hq => by rw [ht9]; exact h3 q hq, by rw [ht9]; exact ⟨_, h1, pk_uLs⟩⟩⟩) (fun z hz => (List.mem_append.mp hz).elim (fun h => (hL z h).elim) (fun h => by rw [List.mem_singleton.mp h]; exact hlo)) dL_plannedAt_22
  · rcases tc_plannedAt σ p0 p1 with ht | ht | ⟨ht, hw9⟩ | ⟨ht, hw9⟩
    · exact absurd ht (exOf0 hex)
    · refine xw_c1 (i := 1) (ck := 20) hown htab hE.2 ⟨by decide, by decide⟩ (exOf1 ht) rfl ⟨rfl, by decide⟩ ck20 hce hcv hcl ?_
      refine lv_astore (lv' := [(4, .ref q9), (0, .ref (ad 0 0)), (1, .int p0), (2, .int p1), (3, .ref ou)]) hx hb dL_plannedAt_13 hl (by decide) rfl (fun ls hl => ?_)
      refine lv_iconst (v := 1) hx hb dL_plannedAt_15 (by decide) ?_
      refine W.widen (k := 2) (n := 12) (Nat.le_of_ble_eq_true rfl) (Nat.le_of_ble_eq_true rfl) ?_
      exact W.iret (v := 1) hx hb hr (fun t ht9 hW => ⟨congrArg (fun z => Outcome.returned (some (Value.int z))) ht.symm, fun _ => ⟨by rw [ht9]; exact hz, fun q hq => by rw [ht9]; exact ho q hq⟩, fun q => absurd (ht.symm.trans q) (by decide)⟩) (fun z h => (hL z h).elim) dL_plannedAt_16
    · refine xw_c2 (i := 5) (j := 1) (ck := 81) (cj := 20) hown htab hE.2 ⟨by decide, by decide⟩ ⟨by decide, by decide⟩ (by decide) (exOf2 ht) rfl ⟨rfl, by decide⟩ ⟨rfl, by decide⟩ ck81 ck20 hce hcv hcl ?_
      refine lv_astore (lv' := [(4, .ref q9), (0, .ref (ad 0 0)), (1, .int p0), (2, .int p1), (3, .ref ou)]) hx hb dL_plannedAt_17 hl (by decide) rfl (fun ls hl => ?_)
      refine lv_iconst (v := 2) hx hb dL_plannedAt_19 (by decide) ?_
      refine W.widen (k := 2) (n := 12) (Nat.le_of_ble_eq_true rfl) (Nat.le_of_ble_eq_true rfl) ?_
      exact W.iret (v := 2) hx hb hr (fun t ht9 hW => ⟨congrArg (fun z => Outcome.returned (some (Value.int z))) ht.symm, fun _ => ⟨by rw [ht9]; exact hz, fun q hq => by rw [ht9]; exact ho q hq⟩, fun q => absurd (ht.symm.trans q) (by decide)⟩) (fun z h => (hL z h).elim) dL_plannedAt_20
    · exact absurd rfl hw9
set_option maxHeartbeats 4000000 in
set_option maxRecDepth 100000 in
theorem qL_leastHours (la : Launch) (hst : la.stackTraces = false) (g : EG) (lo : Nat) (ad : Nat → Nat → Nat) (σ : Sg) (u : Nat → Int64) (τ : Sg) (hI : INV σ) (hA : XA lo ad σ) (ou : Nat) (hlo : lo ≤ ou) (hO : ¬ xown ad σ ou) (p0 : Int32) : Met la yL_leastHours wsL_leastHours ({ frames := 11, cells := 1, slots := 6, locals := 288 } : Room) (va_Pc [.ref (ad 0 0), .int p0, .ref ou] (fun U => XR g ad σ u τ U.heap ∧ OUTL g ou U.heap ∧ EL g lo U)) (QW ou (tV σ p0) (fun H0 Hm => (∃ τ9, XR g ad σ u τ9 Hm) ∧ H0.size ≤ Hm.size ∧ ∀ q, q < H0.size → ¬ xown ad σ q → Hm[q]? = H0[q]?) (ANL g ou ((nI (bestP σ p0).1).toInt64))) 1 6 (fun q => lo ≤ q) := by
  refine met_ofWH (cc := cL_leastHours) (maxL := 4) (ret := (some .int)) (by decide) rfl ?_
  intro p e s m args below meth c s₁ B hml hv
  obtain ⟨rfl, hX, ⟨f9, hof⟩, hE⟩ := hv
  have hK := hE.1.1.1
  have hx := B.exec
  have hb := B.bytes
  have hr := B.returns
  have hts := atoms_spec (ws := wsL_leastHours) B.pre
  have hown : s.vm.findClass RL = some m.cls := findClass_of_methodNamed B.named
  have hlocks := B.notSynchronized
  have htab : c.exceptionTable.toList = [⟨0, 9, 12, 20⟩] := vx_table (x := yL_leastHours) B (hts (.codeWith yL_leastHours cL_leastHours 4 (some .int) [(0, 9, 12, 20)]) List.mem_cons_self)
  have ck20 := hts (.classLink RL 20 (en 1)) (by decide +kernel)
  have hl := lv_entry ([.ref (ad 0 0), .int p0, .ref ou]) (n := 4) (Nat.le_of_ble_eq_true rfl)
  rw [lg_entry_eq]
  generalize (lg_sl ([.ref (ad 0 0), .int p0, .ref ou]) ++ List.replicate (4 - (lg_sl ([.ref (ad 0 0), .int p0, .ref ou])).length) Slot.unset).toArray = ls at hl ⊢
  have hl : lv_has ls 4 [(0, .ref (ad 0 0)), (1, .int p0), (2, .ref ou)] := hl
  refine lv_aload_n hx hb dL_leastHours_0 rfl (lv_at hl 2 rfl) ?_
  refine lv_iconst (v := 0) hx hb dL_leastHours_1 (by decide) ?_
  refine lv_aload_n hx hb dL_leastHours_2 rfl (lv_at hl 0 rfl) ?_
  refine lv_iload_n hx hb dL_leastHours_3 rfl (lv_at hl 1 rfl) ?_
  refine xw_v (n := 1) (As := [.int p0]) (rest := [.int 0, .ref ou]) (G := (fun Hm => (∃ τ9, XR g ad σ u τ9 Hm) ∧ s.heap.size ≤ Hm.size ∧ ∀ q, q < s.heap.size → ¬ xown ad σ q → Hm[q]? = s.heap[q]?)) ⟨hx, hb, hml, hown, hts⟩ hE hX (qX6_leastHours la hst g lo ad σ u τ hI hA p0) (fun U hU hEU => ⟨by rw [hU]; exact hX, hEU.1⟩) (fun U a g9 mk q => ⟨q.1, q.2.calling g9 mk a⟩) (fun a st oc t h0 hq => ⟨hq.1, hq.2.1, hq.2.2.1, by rw [← h0]; exact hq.2.2.2.1, fun q q1 q2 => by rw [← h0]; exact hq.2.2.2.2 q (by rw [h0]; exact q1) q2⟩) gL_leastHours_X6_leastHours rfl rfl rfl (by decide +kernel) ⟨Nat.le_of_ble_eq_true rfl, Nat.le_of_ble_eq_true rfl⟩ rfl hl.1 rfl (Nat.le_of_ble_eq_true rfl) dL_leastHours_4 ⟨Nat.le_of_ble_eq_true rfl, Nat.le_of_ble_eq_true rfl⟩ (fun H1 L hex hG hL => ?_) (fun H1 L q9 ce hex hz ho hce hcv hcl hL => ?_)
  · have ht : (tV σ p0) = 0 := exOfz (by decide) (tc_leastHours σ p0) hex
    obtain ⟨hP, hgz, hk⟩ := hG
    have hof := hof.kept (hk _ hof.lt hO)
    refine lv_i2l hx hb dL_leastHours_7 rfl ?_
    refine sp_last hx hb hK 2 hof rfl (vin_dec (by decide +kernel)) dL_leastHours_8 (fun H2 j h1 h2 h3 => ?_)
    rw [show (0 : Int32).toNatClampNeg = 0 from ti_0] at h1
    refine lv_goto (tgt := 15) hx hb dL_leastHours_9 (by decide) ?_
    refine lv_iconst (v := 0) hx hb dL_leastHours_15 (by decide) ?_
    refine W.widen (k := 1) (n := 6) (Nat.le_of_ble_eq_true rfl) (Nat.le_of_ble_eq_true rfl) ?_
    exact W.iret (v := 0) hx hb hr (fun t ht9 hW => ⟨congrArg (fun z => Outcome.returned (some (Value.int z))) ht.symm, fun q => absurd ht q, fun _ => ⟨_, ⟨hP, hgz, hk⟩, by rw [ht9]; exact h2, fun q hq => by rw [ht9]; exact h3 q hq, by rw [ht9]; exact ⟨_, h1, pk_uLs⟩⟩⟩) (fun z hz => (List.mem_append.mp hz).elim (hL z) (fun h => by rw [List.mem_singleton.mp h]; exact hlo)) dL_leastHours_16
  · rcases tc_leastHours σ p0 with ht | ht | ⟨ht, hw9⟩ | ⟨ht, hw9⟩
    · exact absurd ht (exOf0 hex)
    · refine xw_c1 (i := 1) (ck := 20) hown htab hE.2 ⟨by decide, by decide⟩ (exOf1 ht) rfl ⟨rfl, by decide⟩ ck20 hce hcv hcl ?_
      refine lv_astore_n (lv' := [(3, .ref q9), (0, .ref (ad 0 0)), (1, .int p0), (2, .ref ou)]) hx hb dL_leastHours_12 rfl hl (by decide) rfl (fun ls hl => ?_)
      refine lv_iconst (v := 1) hx hb dL_leastHours_13 (by decide) ?_
      refine W.widen (k := 1) (n := 6) (Nat.le_of_ble_eq_true rfl) (Nat.le_of_ble_eq_true rfl) ?_
      exact W.iret (v := 1) hx hb hr (fun t ht9 hW => ⟨congrArg (fun z => Outcome.returned (some (Value.int z))) ht.symm, fun _ => ⟨by rw [ht9]; exact hz, fun q hq => by rw [ht9]; exact ho q hq⟩, fun q => absurd (ht.symm.trans q) (by decide)⟩) hL dL_leastHours_14
    · exact absurd rfl hw9
    · exact absurd rfl hw9
set_option maxHeartbeats 4000000 in
set_option maxRecDepth 100000 in
theorem qL_leastByAll (la : Launch) (hst : la.stackTraces = false) (g : EG) (lo : Nat) (ad : Nat → Nat → Nat) (σ : Sg) (u : Nat → Int64) (τ : Sg) (hI : INV σ) (hA : XA lo ad σ) (ou : Nat) (hlo : lo ≤ ou) (hO : ¬ xown ad σ ou) (p0 : Int32) : Met la yL_leastByAll wsL_leastByAll ({ frames := 11, cells := 1, slots := 6, locals := 288 } : Room) (va_Pc [.ref (ad 0 0), .int p0, .ref ou] (fun U => XR g ad σ u τ U.heap ∧ OUTL g ou U.heap ∧ EL g lo U)) (QW ou (tV σ p0) (fun H0 Hm => (∃ τ9, XR g ad σ u τ9 Hm) ∧ H0.size ≤ Hm.size ∧ ∀ q, q < H0.size → ¬ xown ad σ q → Hm[q]? = H0[q]?) (ANL g ou ((nI (bestP σ p0).1).toInt64))) 1 6 (fun q => lo ≤ q) := by
  refine met_ofWH (cc := cL_leastByAll) (maxL := 4) (ret := (some .int)) (by decide) rfl ?_
  intro p e s m args below meth c s₁ B hml hv
  obtain ⟨rfl, hX, ⟨f9, hof⟩, hE⟩ := hv
  have hK := hE.1.1.1
  have hx := B.exec
  have hb := B.bytes
  have hr := B.returns
  have hts := atoms_spec (ws := wsL_leastByAll) B.pre
  have hown : s.vm.findClass RL = some m.cls := findClass_of_methodNamed B.named
  have hlocks := B.notSynchronized
  have htab : c.exceptionTable.toList = [⟨0, 9, 12, 20⟩] := vx_table (x := yL_leastByAll) B (hts (.codeWith yL_leastByAll cL_leastByAll 4 (some .int) [(0, 9, 12, 20)]) List.mem_cons_self)
  have ck20 := hts (.classLink RL 20 (en 1)) (by decide +kernel)
  have hl := lv_entry ([.ref (ad 0 0), .int p0, .ref ou]) (n := 4) (Nat.le_of_ble_eq_true rfl)
  rw [lg_entry_eq]
  generalize (lg_sl ([.ref (ad 0 0), .int p0, .ref ou]) ++ List.replicate (4 - (lg_sl ([.ref (ad 0 0), .int p0, .ref ou])).length) Slot.unset).toArray = ls at hl ⊢
  have hl : lv_has ls 4 [(0, .ref (ad 0 0)), (1, .int p0), (2, .ref ou)] := hl
  refine lv_aload_n hx hb dL_leastByAll_0 rfl (lv_at hl 2 rfl) ?_
  refine lv_iconst (v := 0) hx hb dL_leastByAll_1 (by decide) ?_
  refine lv_aload_n hx hb dL_leastByAll_2 rfl (lv_at hl 0 rfl) ?_
  refine lv_iload_n hx hb dL_leastByAll_3 rfl (lv_at hl 1 rfl) ?_
  refine xw_v (n := 1) (As := [.int p0]) (rest := [.int 0, .ref ou]) (G := (fun Hm => (∃ τ9, XR g ad σ u τ9 Hm) ∧ s.heap.size ≤ Hm.size ∧ ∀ q, q < s.heap.size → ¬ xown ad σ q → Hm[q]? = s.heap[q]?)) ⟨hx, hb, hml, hown, hts⟩ hE hX (qX6_leastByAll la hst g lo ad σ u τ hI hA p0) (fun U hU hEU => ⟨by rw [hU]; exact hX, hEU.1⟩) (fun U a g9 mk q => ⟨q.1, q.2.calling g9 mk a⟩) (fun a st oc t h0 hq => ⟨hq.1, hq.2.1, hq.2.2.1, by rw [← h0]; exact hq.2.2.2.1, fun q q1 q2 => by rw [← h0]; exact hq.2.2.2.2 q (by rw [h0]; exact q1) q2⟩) gL_leastByAll_X6_leastByAll rfl rfl rfl (by decide +kernel) ⟨Nat.le_of_ble_eq_true rfl, Nat.le_of_ble_eq_true rfl⟩ rfl hl.1 rfl (Nat.le_of_ble_eq_true rfl) dL_leastByAll_4 ⟨Nat.le_of_ble_eq_true rfl, Nat.le_of_ble_eq_true rfl⟩ (fun H1 L hex hG hL => ?_) (fun H1 L q9 ce hex hz ho hce hcv hcl hL => ?_)
  · have ht : (tV σ p0) = 0 := exOfz (by decide) (tc_leastByAll σ p0) hex
    obtain ⟨hP, hgz, hk⟩ := hG
    have hof := hof.kept (hk _ hof.lt hO)
    refine lv_i2l hx hb dL_leastByAll_7 rfl ?_
    refine sp_last hx hb hK 2 hof rfl (vin_dec (by decide +kernel)) dL_leastByAll_8 (fun H2 j h1 h2 h3 => ?_)
    rw [show (0 : Int32).toNatClampNeg = 0 from ti_0] at h1
    refine lv_goto (tgt := 15) hx hb dL_leastByAll_9 (by decide) ?_
    refine lv_iconst (v := 0) hx hb dL_leastByAll_15 (by decide) ?_
    refine W.widen (k := 1) (n := 6) (Nat.le_of_ble_eq_true rfl) (Nat.le_of_ble_eq_true rfl) ?_
    exact W.iret (v := 0) hx hb hr (fun t ht9 hW => ⟨congrArg (fun z => Outcome.returned (some (Value.int z))) ht.symm, fun q => absurd ht q, fun _ => ⟨_, ⟨hP, hgz, hk⟩, by rw [ht9]; exact h2, fun q hq => by rw [ht9]; exact h3 q hq, by rw [ht9]; exact ⟨_, h1, pk_uLs⟩⟩⟩) (fun z hz => (List.mem_append.mp hz).elim (hL z) (fun h => by rw [List.mem_singleton.mp h]; exact hlo)) dL_leastByAll_16
  · rcases tc_leastByAll σ p0 with ht | ht | ⟨ht, hw9⟩ | ⟨ht, hw9⟩
    · exact absurd ht (exOf0 hex)
    · refine xw_c1 (i := 1) (ck := 20) hown htab hE.2 ⟨by decide, by decide⟩ (exOf1 ht) rfl ⟨rfl, by decide⟩ ck20 hce hcv hcl ?_
      refine lv_astore_n (lv' := [(3, .ref q9), (0, .ref (ad 0 0)), (1, .int p0), (2, .ref ou)]) hx hb dL_leastByAll_12 rfl hl (by decide) rfl (fun ls hl => ?_)
      refine lv_iconst (v := 1) hx hb dL_leastByAll_13 (by decide) ?_
      refine W.widen (k := 1) (n := 6) (Nat.le_of_ble_eq_true rfl) (Nat.le_of_ble_eq_true rfl) ?_
      exact W.iret (v := 1) hx hb hr (fun t ht9 hW => ⟨congrArg (fun z => Outcome.returned (some (Value.int z))) ht.symm, fun _ => ⟨by rw [ht9]; exact hz, fun q hq => by rw [ht9]; exact ho q hq⟩, fun q => absurd (ht.symm.trans q) (by decide)⟩) hL dL_leastByAll_14
    · exact absurd rfl hw9
    · exact absurd rfl hw9
