set_option maxHeartbeats 4000000 in
set_option maxRecDepth 100000 in
theorem qL_firstOf (la : Launch) (hst : la.stackTraces = false) (g : EG) (lo : Nat) (ad : Nat → Nat → Nat) (σ : Sg) (u : Nat → Int64) (τ : Sg) (hI : INV σ) (hA : XA lo ad σ) (ou : Nat) (hlo : lo ≤ ou) (hO : ¬ xown ad σ ou) (p0 : Int32) : Met la yL_firstOf wsL_firstOf ({ frames := 12, cells := 2, slots := 12, locals := 315 } : Room) (va_Pc [.ref (ad 0 0), .int p0, .ref ou] (fun U => XR g ad σ u τ U.heap ∧ OUTL g ou U.heap ∧ EL g lo U)) (QW ou (t_firstOf σ p0) (fun H0 Hm => (∃ τ9, XR g ad σ u τ9 Hm) ∧ H0.size ≤ Hm.size ∧ ∀ q, q < H0.size → ¬ xown ad σ q → Hm[q]? = H0[q]?) (ANL g ou ((tkP σ p0 (bestP σ p0).2).toInt64))) 2 12 (fun q => lo ≤ q) := by
  refine met_ofWH (cc := cL_firstOf) (maxL := 4) (ret := (some .int)) (by decide) rfl ?_
  intro p e s m args below meth c s₁ B hml hv
  obtain ⟨rfl, hX, ⟨f9, hof⟩, hE⟩ := hv
  have hK := hE.1.1.1
  have hx := B.exec
  have hb := B.bytes
  have hr := B.returns
  have hts := atoms_spec (ws := wsL_firstOf) B.pre
  have hown : s.vm.findClass RL = some m.cls := findClass_of_methodNamed B.named
  have hlocks := B.notSynchronized
  have htab : c.exceptionTable.toList = [⟨0, 9, 12, 20⟩, ⟨0, 9, 15, 15⟩] := vx_table (x := yL_firstOf) B (hts (.codeWith yL_firstOf cL_firstOf 4 (some .int) [(0, 9, 12, 20), (0, 9, 15, 15)]) List.mem_cons_self)
  have ck15 := hts (.classLink RL 15 (en 3)) (by decide +kernel)
  have ck20 := hts (.classLink RL 20 (en 1)) (by decide +kernel)
  have hl := lv_entry ([.ref (ad 0 0), .int p0, .ref ou]) (n := 4) (Nat.le_of_ble_eq_true rfl)
  rw [lg_entry_eq]
  generalize (lg_sl ([.ref (ad 0 0), .int p0, .ref ou]) ++ List.replicate (4 - (lg_sl ([.ref (ad 0 0), .int p0, .ref ou])).length) Slot.unset).toArray = ls at hl ⊢
  have hl : lv_has ls 4 [(0, .ref (ad 0 0)), (1, .int p0), (2, .ref ou)] := hl
  refine lv_aload_n hx hb dL_firstOf_0 rfl (lv_at hl 2 rfl) ?_
  refine lv_iconst (v := 0) hx hb dL_firstOf_1 (by decide) ?_
  refine lv_aload_n hx hb dL_firstOf_2 rfl (lv_at hl 0 rfl) ?_
  refine lv_iload_n hx hb dL_firstOf_3 rfl (lv_at hl 1 rfl) ?_
  refine xw_v (n := 1) (As := [.int p0]) (rest := [.int 0, .ref ou]) (G := (fun Hm => (∃ τ9, XR g ad σ u τ9 Hm) ∧ s.heap.size ≤ Hm.size ∧ ∀ q, q < s.heap.size → ¬ xown ad σ q → Hm[q]? = s.heap[q]?)) ⟨hx, hb, hml, hown, hts⟩ hE hX (qX6_firstOf la hst g lo ad σ u τ hI hA p0) (fun U hU hEU => ⟨by rw [hU]; exact hX, hEU.1⟩) (fun U a g9 mk q => ⟨q.1, q.2.calling g9 mk a⟩) (fun a st oc t h0 hq => ⟨hq.1, hq.2.1, hq.2.2.1, by rw [← h0]; exact hq.2.2.2.1, fun q q1 q2 => by rw [← h0]; exact hq.2.2.2.2 q (by rw [h0]; exact q1) q2⟩) gL_firstOf_X6_firstOf rfl rfl rfl (by decide +kernel) ⟨Nat.le_of_ble_eq_true rfl, Nat.le_of_ble_eq_true rfl⟩ rfl hl.1 rfl (Nat.le_of_ble_eq_true rfl) dL_firstOf_4 ⟨Nat.le_of_ble_eq_true rfl, Nat.le_of_ble_eq_true rfl⟩ (fun H1 L hex hG hL => ?_) (fun H1 L q9 ce hex hz ho hce hcv hcl hL => ?_)
  · have ht : (t_firstOf σ p0) = 0 := exOfz (by decide) (tc_firstOf σ p0) hex
    obtain ⟨hP, hgz, hk⟩ := hG
    have hof := hof.kept (hk _ hof.lt hO)
    refine lv_i2l hx hb dL_firstOf_7 rfl ?_
    refine sp_last hx hb hK 2 hof rfl (vin_dec (by decide +kernel)) dL_firstOf_8 (fun H2 j h1 h2 h3 => ?_)
    rw [show (0 : Int32).toNatClampNeg = 0 from ti_0] at h1
    refine lv_goto (tgt := 18) hx hb dL_firstOf_9 (by decide) ?_
    refine lv_iconst (v := 0) hx hb dL_firstOf_18 (by decide) ?_
    refine W.widen (k := 2) (n := 12) (Nat.le_of_ble_eq_true rfl) (Nat.le_of_ble_eq_true rfl) ?_
    exact W.iret (v := 0) hx hb hr (fun t ht9 hW => ⟨congrArg (fun z => Outcome.returned (some (Value.int z))) ht.symm, fun q => absurd ht q, fun _ => ⟨_, ⟨hP, hgz, hk⟩, by rw [ht9]; exact h2, fun q hq => by rw [ht9]; exact h3 q hq, by rw [ht9]; exact ⟨_, h1, pk_uLs⟩⟩⟩) (fun z hz => (List.mem_append.mp hz).elim (hL z) (fun h => by rw [List.mem_singleton.mp h]; exact hlo)) dL_firstOf_19
  · rcases tc_firstOf σ p0 with ht | ht | ⟨ht, hw9⟩ | ⟨ht, hw9⟩
    · exact absurd ht (exOf0 hex)
    · refine xw_c1 (i := 1) (ck := 20) hown htab hE.2 ⟨by decide, by decide⟩ (exOf1 ht) rfl ⟨rfl, by decide⟩ ck20 hce hcv hcl ?_
      refine lv_astore_n (lv' := [(3, .ref q9), (0, .ref (ad 0 0)), (1, .int p0), (2, .ref ou)]) hx hb dL_firstOf_12 rfl hl (by decide) rfl (fun ls hl => ?_)
      refine lv_iconst (v := 1) hx hb dL_firstOf_13 (by decide) ?_
      refine W.widen (k := 2) (n := 12) (Nat.le_of_ble_eq_true rfl) (Nat.le_of_ble_eq_true rfl) ?_
      exact W.iret (v := 1) hx hb hr (fun t ht9 hW => ⟨congrArg (fun z => Outcome.returned (some (Value.int z))) ht.symm, fun _ => ⟨by rw [ht9]; exact hz, fun q hq => by rw [ht9]; exact ho q hq⟩, fun q => absurd (ht.symm.trans q) (by decide)⟩) hL dL_firstOf_14
    · refine xw_c2 (i := 3) (j := 1) (ck := 15) (cj := 20) hown htab hE.2 ⟨by decide, by decide⟩ ⟨by decide, by decide⟩ (by decide) (exOf2 ht) rfl ⟨rfl, by decide⟩ ⟨rfl, by decide⟩ ck15 ck20 hce hcv hcl ?_
      refine lv_astore_n (lv' := [(3, .ref q9), (0, .ref (ad 0 0)), (1, .int p0), (2, .ref ou)]) hx hb dL_firstOf_15 rfl hl (by decide) rfl (fun ls hl => ?_)
      refine lv_iconst (v := 2) hx hb dL_firstOf_16 (by decide) ?_
      refine W.widen (k := 2) (n := 12) (Nat.le_of_ble_eq_true rfl) (Nat.le_of_ble_eq_true rfl) ?_
      exact W.iret (v := 2) hx hb hr (fun t ht9 hW => ⟨congrArg (fun z => Outcome.returned (some (Value.int z))) ht.symm, fun _ => ⟨by rw [ht9]; exact hz, fun q hq => by rw [ht9]; exact ho q hq⟩, fun q => absurd (ht.symm.trans q) (by decide)⟩) hL dL_firstOf_17
    · exact absurd rfl hw9
set_option maxHeartbeats 4000000 in
set_option maxRecDepth 100000 in
theorem qL_stateOf (la : Launch) (hst : la.stackTraces = false) (g : EG) (lo : Nat) (ad : Nat → Nat → Nat) (σ : Sg) (u : Nat → Int64) (τ : Sg) (hI : INV σ) (hA : XA lo ad σ) (ou : Nat) (hlo : lo ≤ ou) (hO : ¬ xown ad σ ou) (p0 : Int32) : Met la yL_stateOf wsL_stateOf ({ frames := 8, cells := 1, slots := 6, locals := 143 } : Room) (va_Pc [.ref (ad 0 0), .int p0, .ref ou] (fun U => XR g ad σ u τ U.heap ∧ OUTL g ou U.heap ∧ EL g lo U)) (QW ou (tL σ p0) (fun H0 Hm => Hm = H0) (ANL g ou ((σ 21 (ti p0)).toInt64))) 1 6 (fun q => lo ≤ q) := by
  refine met_ofWH (cc := cL_stateOf) (maxL := 4) (ret := (some .int)) (by decide) rfl ?_
  intro p e s m args below meth c s₁ B hml hv
  obtain ⟨rfl, hX, ⟨f9, hof⟩, hE⟩ := hv
  have hK := hE.1.1.1
  have hx := B.exec
  have hb := B.bytes
  have hr := B.returns
  have hts := atoms_spec (ws := wsL_stateOf) B.pre
  have hown : s.vm.findClass RL = some m.cls := findClass_of_methodNamed B.named
  have hlocks := B.notSynchronized
  have htab : c.exceptionTable.toList = [⟨0, 9, 12, 20⟩] := vx_table (x := yL_stateOf) B (hts (.codeWith yL_stateOf cL_stateOf 4 (some .int) [(0, 9, 12, 20)]) List.mem_cons_self)
  have ck20 := hts (.classLink RL 20 (en 1)) (by decide +kernel)
  have hl := lv_entry ([.ref (ad 0 0), .int p0, .ref ou]) (n := 4) (Nat.le_of_ble_eq_true rfl)
  rw [lg_entry_eq]
  generalize (lg_sl ([.ref (ad 0 0), .int p0, .ref ou]) ++ List.replicate (4 - (lg_sl ([.ref (ad 0 0), .int p0, .ref ou])).length) Slot.unset).toArray = ls at hl ⊢
  have hl : lv_has ls 4 [(0, .ref (ad 0 0)), (1, .int p0), (2, .ref ou)] := hl
  refine lv_aload_n hx hb dL_stateOf_0 rfl (lv_at hl 2 rfl) ?_
  refine lv_iconst (v := 0) hx hb dL_stateOf_1 (by decide) ?_
  refine lv_aload_n hx hb dL_stateOf_2 rfl (lv_at hl 0 rfl) ?_
  refine lv_iload_n hx hb dL_stateOf_3 rfl (lv_at hl 1 rfl) ?_
  refine xw_v (n := 1) (As := [.int p0]) (rest := [.int 0, .ref ou]) (G := (fun Hm => Hm = s.heap)) ⟨hx, hb, hml, hown, hts⟩ hE hX (qX6_stateOf la hst g lo ad σ u τ hI hA p0) (fun U hU hEU => ⟨by rw [hU]; exact hX, hEU.1.1⟩) (fun U a g9 mk q => ⟨q.1, q.2.calling g9 mk a⟩) (fun a st oc t h0 hq => ⟨hq.1, hq.2.1, hq.2.2.trans h0⟩) gL_stateOf_X6_stateOf rfl rfl rfl (by decide +kernel) ⟨Nat.le_of_ble_eq_true rfl, Nat.le_of_ble_eq_true rfl⟩ rfl hl.1 rfl (Nat.le_of_ble_eq_true rfl) dL_stateOf_4 ⟨Nat.le_of_ble_eq_true rfl, Nat.le_of_ble_eq_true rfl⟩ (fun H1 L hex hG hL => ?_) (fun H1 L q9 ce hex hz ho hce hcv hcl hL => ?_)
  · have ht : (tL σ p0) = 0 := exOfz (by decide) (tc_stateOf σ p0) hex
    replace hG : H1 = s.heap := hG
    subst hG
    refine lv_i2l hx hb dL_stateOf_7 rfl ?_
    refine sp_last hx hb hK 2 hof rfl (vin_dec (by decide +kernel)) dL_stateOf_8 (fun H2 j h1 h2 h3 => ?_)
    rw [show (0 : Int32).toNatClampNeg = 0 from ti_0] at h1
    refine lv_goto (tgt := 15) hx hb dL_stateOf_9 (by decide) ?_
    refine lv_iconst (v := 0) hx hb dL_stateOf_15 (by decide) ?_
    refine W.widen (k := 1) (n := 6) (Nat.le_of_ble_eq_true rfl) (Nat.le_of_ble_eq_true rfl) ?_
    exact W.iret (v := 0) hx hb hr (fun t ht9 hW => ⟨congrArg (fun z => Outcome.returned (some (Value.int z))) ht.symm, fun q => absurd ht q, fun _ => ⟨_, rfl, by rw [ht9]; exact h2, fun q hq => by rw [ht9]; exact h3 q hq, by rw [ht9]; exact ⟨_, h1, pk_uLs⟩⟩⟩) (fun z hz => (List.mem_append.mp hz).elim (fun h => (hL z h).elim) (fun h => by rw [List.mem_singleton.mp h]; exact hlo)) dL_stateOf_16
  · rcases tc_stateOf σ p0 with ht | ht | ⟨ht, hw9⟩ | ⟨ht, hw9⟩
    · exact absurd ht (exOf0 hex)
    · refine xw_c1 (i := 1) (ck := 20) hown htab hE.2 ⟨by decide, by decide⟩ (exOf1 ht) rfl ⟨rfl, by decide⟩ ck20 hce hcv hcl ?_
      refine lv_astore_n (lv' := [(3, .ref q9), (0, .ref (ad 0 0)), (1, .int p0), (2, .ref ou)]) hx hb dL_stateOf_12 rfl hl (by decide) rfl (fun ls hl => ?_)
      refine lv_iconst (v := 1) hx hb dL_stateOf_13 (by decide) ?_
      refine W.widen (k := 1) (n := 6) (Nat.le_of_ble_eq_true rfl) (Nat.le_of_ble_eq_true rfl) ?_
      exact W.iret (v := 1) hx hb hr (fun t ht9 hW => ⟨congrArg (fun z => Outcome.returned (some (Value.int z))) ht.symm, fun _ => ⟨by rw [ht9]; exact hz, fun q hq => by rw [ht9]; exact ho q hq⟩, fun q => absurd (ht.symm.trans q) (by decide)⟩) (fun z h => (hL z h).elim) dL_stateOf_14
    · exact absurd rfl hw9
    · exact absurd rfl hw9
set_option maxHeartbeats 4000000 in
set_option maxRecDepth 100000 in
theorem qL_shadeOf (la : Launch) (hst : la.stackTraces = false) (g : EG) (lo : Nat) (ad : Nat → Nat → Nat) (σ : Sg) (u : Nat → Int64) (τ : Sg) (hI : INV σ) (hA : XA lo ad σ) (ou : Nat) (hlo : lo ≤ ou) (hO : ¬ xown ad σ ou) (p0 p1 : Int32) : Met la yL_shadeOf wsL_shadeOf ({ frames := 9, cells := 3, slots := 18, locals := 167 } : Room) (va_Pc [.ref (ad 0 0), .int p0, .int p1, .ref ou] (fun U => XR g ad σ u τ U.heap ∧ OUTL g ou U.heap ∧ EL g lo U)) (QW ou (t_shadeOf σ p0 p1) (fun H0 Hm => Hm = H0) (ANL g ou ((σ 16 (ti (3 * p0 + p1))).toInt64))) 3 18 (fun q => lo ≤ q) := by
  refine met_ofWH (cc := cL_shadeOf) (maxL := 5) (ret := (some .int)) (by decide) rfl ?_
  intro p e s m args below meth c s₁ B hml hv
  obtain ⟨rfl, hX, ⟨f9, hof⟩, hE⟩ := hv
  have hK := hE.1.1.1
  have hx := B.exec
  have hb := B.bytes
  have hr := B.returns
  have hts := atoms_spec (ws := wsL_shadeOf) B.pre
  have hown : s.vm.findClass RL = some m.cls := findClass_of_methodNamed B.named
  have hlocks := B.notSynchronized
  have htab : c.exceptionTable.toList = [⟨0, 10, 13, 20⟩, ⟨0, 10, 17, 15⟩, ⟨0, 10, 21, 81⟩] := vx_table (x := yL_shadeOf) B (hts (.codeWith yL_shadeOf cL_shadeOf 5 (some .int) [(0, 10, 13, 20), (0, 10, 17, 15), (0, 10, 21, 81)]) List.mem_cons_self)
  have ck15 := hts (.classLink RL 15 (en 3)) (by decide +kernel)
  have ck20 := hts (.classLink RL 20 (en 1)) (by decide +kernel)
  have ck81 := hts (.classLink RL 81 (en 5)) (by decide +kernel)
  have hl := lv_entry ([.ref (ad 0 0), .int p0, .int p1, .ref ou]) (n := 5) (Nat.le_of_ble_eq_true rfl)
  rw [lg_entry_eq]
  generalize (lg_sl ([.ref (ad 0 0), .int p0, .int p1, .ref ou]) ++ List.replicate (5 - (lg_sl ([.ref (ad 0 0), .int p0, .int p1, .ref ou])).length) Slot.unset).toArray = ls at hl ⊢
  have hl : lv_has ls 5 [(0, .ref (ad 0 0)), (1, .int p0), (2, .int p1), (3, .ref ou)] := hl
  refine lv_aload_n hx hb dL_shadeOf_0 rfl (lv_at hl 3 rfl) ?_
  refine lv_iconst (v := 0) hx hb dL_shadeOf_1 (by decide) ?_
  refine lv_aload_n hx hb dL_shadeOf_2 rfl (lv_at hl 0 rfl) ?_
  refine lv_iload_n hx hb dL_shadeOf_3 rfl (lv_at hl 1 rfl) ?_
  refine lv_iload_n hx hb dL_shadeOf_4 rfl (lv_at hl 2 rfl) ?_
  refine xw_v (n := 2) (As := [.int p0, .int p1]) (rest := [.int 0, .ref ou]) (G := (fun Hm => Hm = s.heap)) ⟨hx, hb, hml, hown, hts⟩ hE hX (qX6_shadeOf la hst g lo ad σ u τ hI hA p0 p1) (fun U hU hEU => ⟨by rw [hU]; exact hX, hEU.1.1⟩) (fun U a g9 mk q => ⟨q.1, q.2.calling g9 mk a⟩) (fun a st oc t h0 hq => ⟨hq.1, hq.2.1, hq.2.2.trans h0⟩) gL_shadeOf_X6_shadeOf rfl rfl rfl (by decide +kernel) ⟨Nat.le_of_ble_eq_true rfl, Nat.le_of_ble_eq_true rfl⟩ rfl hl.1 rfl (Nat.le_of_ble_eq_true rfl) dL_shadeOf_5 ⟨Nat.le_of_ble_eq_true rfl, Nat.le_of_ble_eq_true rfl⟩ (fun H1 L hex hG hL => ?_) (fun H1 L q9 ce hex hz ho hce hcv hcl hL => ?_)
  · have ht : (t_shadeOf σ p0 p1) = 0 := exOfz (by decide) (tc_shadeOf σ p0 p1) hex
    replace hG : H1 = s.heap := hG
    subst hG
    refine lv_i2l hx hb dL_shadeOf_8 rfl ?_
    refine sp_last hx hb hK 2 hof rfl (vin_dec (by decide +kernel)) dL_shadeOf_9 (fun H2 j h1 h2 h3 => ?_)
    rw [show (0 : Int32).toNatClampNeg = 0 from ti_0] at h1
    refine lv_goto (tgt := 25) hx hb dL_shadeOf_10 (by decide) ?_
    refine lv_iconst (v := 0) hx hb dL_shadeOf_25 (by decide) ?_
    refine W.widen (k := 3) (n := 18) (Nat.le_of_ble_eq_true rfl) (Nat.le_of_ble_eq_true rfl) ?_
    exact W.iret (v := 0) hx hb hr (fun t ht9 hW => ⟨congrArg (fun z => Outcome.returned (some (Value.int z))) ht.symm, fun q => absurd ht q, fun _ => ⟨_, rfl, by rw [ht9]; exact h2, fun q hq => by rw [ht9]; exact h3 q hq, by rw [ht9]; exact ⟨_, h1, pk_uLs⟩⟩⟩) (fun z hz => (List.mem_append.mp hz).elim (fun h => (hL z h).elim) (fun h => by rw [List.mem_singleton.mp h]; exact hlo)) dL_shadeOf_26
  · rcases tc_shadeOf σ p0 p1 with ht | ht | ⟨ht, hw9⟩ | ⟨ht, hw9⟩
    · exact absurd ht (exOf0 hex)
    · refine xw_c1 (i := 1) (ck := 20) hown htab hE.2 ⟨by decide, by decide⟩ (exOf1 ht) rfl ⟨rfl, by decide⟩ ck20 hce hcv hcl ?_
      refine lv_astore (lv' := [(4, .ref q9), (0, .ref (ad 0 0)), (1, .int p0), (2, .int p1), (3, .ref ou)]) hx hb dL_shadeOf_13 hl (by decide) rfl (fun ls hl => ?_)
      refine lv_iconst (v := 1) hx hb dL_shadeOf_15 (by decide) ?_
      refine W.widen (k := 3) (n := 18) (Nat.le_of_ble_eq_true rfl) (Nat.le_of_ble_eq_true rfl) ?_
      exact W.iret (v := 1) hx hb hr (fun t ht9 hW => ⟨congrArg (fun z => Outcome.returned (some (Value.int z))) ht.symm, fun _ => ⟨by rw [ht9]; exact hz, fun q hq => by rw [ht9]; exact ho q hq⟩, fun q => absurd (ht.symm.trans q) (by decide)⟩) (fun z h => (hL z h).elim) dL_shadeOf_16
    · refine xw_c2 (i := 3) (j := 1) (ck := 15) (cj := 20) hown htab hE.2 ⟨by decide, by decide⟩ ⟨by decide, by decide⟩ (by decide) (exOf2 ht) rfl ⟨rfl, by decide⟩ ⟨rfl, by decide⟩ ck15 ck20 hce hcv hcl ?_
      refine lv_astore (lv' := [(4, .ref q9), (0, .ref (ad 0 0)), (1, .int p0), (2, .int p1), (3, .ref ou)]) hx hb dL_shadeOf_17 hl (by decide) rfl (fun ls hl => ?_)
      refine lv_iconst (v := 2) hx hb dL_shadeOf_19 (by decide) ?_
      refine W.widen (k := 3) (n := 18) (Nat.le_of_ble_eq_true rfl) (Nat.le_of_ble_eq_true rfl) ?_
      exact W.iret (v := 2) hx hb hr (fun t ht9 hW => ⟨congrArg (fun z => Outcome.returned (some (Value.int z))) ht.symm, fun _ => ⟨by rw [ht9]; exact hz, fun q hq => by rw [ht9]; exact ho q hq⟩, fun q => absurd (ht.symm.trans q) (by decide)⟩) (fun z h => (hL z h).elim) dL_shadeOf_20
    · refine xw_c3 (i := 5) (j := 3) (k := 1) (ck := 81) (cj := 15) (cz := 20) hown htab hE.2 ⟨by decide, by decide⟩ ⟨by decide, by decide⟩ ⟨by decide, by decide⟩ ⟨by decide, by decide⟩ (exOf3 ht) rfl ⟨rfl, by decide⟩ ⟨rfl, by decide⟩ ⟨rfl, by decide⟩ ck81 ck15 ck20 hce hcv hcl ?_
      refine lv_astore (lv' := [(4, .ref q9), (0, .ref (ad 0 0)), (1, .int p0), (2, .int p1), (3, .ref ou)]) hx hb dL_shadeOf_21 hl (by decide) rfl (fun ls hl => ?_)
      refine lv_iconst (v := 3) hx hb dL_shadeOf_23 (by decide) ?_
      refine W.widen (k := 3) (n := 18) (Nat.le_of_ble_eq_true rfl) (Nat.le_of_ble_eq_true rfl) ?_
      exact W.iret (v := 3) hx hb hr (fun t ht9 hW => ⟨congrArg (fun z => Outcome.returned (some (Value.int z))) ht.symm, fun _ => ⟨by rw [ht9]; exact hz, fun q hq => by rw [ht9]; exact ho q hq⟩, fun q => absurd (ht.symm.trans q) (by decide)⟩) (fun z h => (hL z h).elim) dL_shadeOf_24
set_option maxHeartbeats 4000000 in
set_option maxRecDepth 100000 in
theorem qL_vatOf (la : Launch) (hst : la.stackTraces = false) (g : EG) (lo : Nat) (ad : Nat → Nat → Nat) (σ : Sg) (u : Nat → Int64) (τ : Sg) (hI : INV σ) (hA : XA lo ad σ) (ou : Nat) (hlo : lo ≤ ou) (hO : ¬ xown ad σ ou) (p0 : Int32) : Met la yL_vatOf wsL_vatOf ({ frames := 8, cells := 2, slots := 12, locals := 144 } : Room) (va_Pc [.ref (ad 0 0), .int p0, .ref ou] (fun U => XR g ad σ u τ U.heap ∧ OUTL g ou U.heap ∧ EL g lo U)) (QW ou (tW σ p0) (fun H0 Hm => Hm = H0) (ANL g ou ((σ 17 (ti p0)).toInt64))) 2 12 (fun q => lo ≤ q) := by
  refine met_ofWH (cc := cL_vatOf) (maxL := 4) (ret := (some .int)) (by decide) rfl ?_
  intro p e s m args below meth c s₁ B hml hv
  obtain ⟨rfl, hX, ⟨f9, hof⟩, hE⟩ := hv
  have hK := hE.1.1.1
  have hx := B.exec
  have hb := B.bytes
  have hr := B.returns
  have hts := atoms_spec (ws := wsL_vatOf) B.pre
  have hown : s.vm.findClass RL = some m.cls := findClass_of_methodNamed B.named
  have hlocks := B.notSynchronized
  have htab : c.exceptionTable.toList = [⟨0, 9, 12, 20⟩, ⟨0, 9, 15, 15⟩] := vx_table (x := yL_vatOf) B (hts (.codeWith yL_vatOf cL_vatOf 4 (some .int) [(0, 9, 12, 20), (0, 9, 15, 15)]) List.mem_cons_self)
  have ck15 := hts (.classLink RL 15 (en 3)) (by decide +kernel)
  have ck20 := hts (.classLink RL 20 (en 1)) (by decide +kernel)
  have hl := lv_entry ([.ref (ad 0 0), .int p0, .ref ou]) (n := 4) (Nat.le_of_ble_eq_true rfl)
  rw [lg_entry_eq]
  generalize (lg_sl ([.ref (ad 0 0), .int p0, .ref ou]) ++ List.replicate (4 - (lg_sl ([.ref (ad 0 0), .int p0, .ref ou])).length) Slot.unset).toArray = ls at hl ⊢
  have hl : lv_has ls 4 [(0, .ref (ad 0 0)), (1, .int p0), (2, .ref ou)] := hl
  refine lv_aload_n hx hb dL_vatOf_0 rfl (lv_at hl 2 rfl) ?_
  refine lv_iconst (v := 0) hx hb dL_vatOf_1 (by decide) ?_
  refine lv_aload_n hx hb dL_vatOf_2 rfl (lv_at hl 0 rfl) ?_
  refine lv_iload_n hx hb dL_vatOf_3 rfl (lv_at hl 1 rfl) ?_
  refine xw_v (n := 1) (As := [.int p0]) (rest := [.int 0, .ref ou]) (G := (fun Hm => Hm = s.heap)) ⟨hx, hb, hml, hown, hts⟩ hE hX (qX6_vatOf la hst g lo ad σ u τ hI hA p0) (fun U hU hEU => ⟨by rw [hU]; exact hX, hEU.1.1⟩) (fun U a g9 mk q => ⟨q.1, q.2.calling g9 mk a⟩) (fun a st oc t h0 hq => ⟨hq.1, hq.2.1, hq.2.2.trans h0⟩) gL_vatOf_X6_vatOf rfl rfl rfl (by decide +kernel) ⟨Nat.le_of_ble_eq_true rfl, Nat.le_of_ble_eq_true rfl⟩ rfl hl.1 rfl (Nat.le_of_ble_eq_true rfl) dL_vatOf_4 ⟨Nat.le_of_ble_eq_true rfl, Nat.le_of_ble_eq_true rfl⟩ (fun H1 L hex hG hL => ?_) (fun H1 L q9 ce hex hz ho hce hcv hcl hL => ?_)
  · have ht : (tW σ p0) = 0 := exOfz (by decide) (tc_vatOf σ p0) hex
    replace hG : H1 = s.heap := hG
    subst hG
    refine lv_i2l hx hb dL_vatOf_7 rfl ?_
    refine sp_last hx hb hK 2 hof rfl (vin_dec (by decide +kernel)) dL_vatOf_8 (fun H2 j h1 h2 h3 => ?_)
    rw [show (0 : Int32).toNatClampNeg = 0 from ti_0] at h1
    refine lv_goto (tgt := 18) hx hb dL_vatOf_9 (by decide) ?_
    refine lv_iconst (v := 0) hx hb dL_vatOf_18 (by decide) ?_
    refine W.widen (k := 2) (n := 12) (Nat.le_of_ble_eq_true rfl) (Nat.le_of_ble_eq_true rfl) ?_
    exact W.iret (v := 0) hx hb hr (fun t ht9 hW => ⟨congrArg (fun z => Outcome.returned (some (Value.int z))) ht.symm, fun q => absurd ht q, fun _ => ⟨_, rfl, by rw [ht9]; exact h2, fun q hq => by rw [ht9]; exact h3 q hq, by rw [ht9]; exact ⟨_, h1, pk_uLs⟩⟩⟩) (fun z hz => (List.mem_append.mp hz).elim (fun h => (hL z h).elim) (fun h => by rw [List.mem_singleton.mp h]; exact hlo)) dL_vatOf_19
  · rcases tc_vatOf σ p0 with ht | ht | ⟨ht, hw9⟩ | ⟨ht, hw9⟩
    · exact absurd ht (exOf0 hex)
    · refine xw_c1 (i := 1) (ck := 20) hown htab hE.2 ⟨by decide, by decide⟩ (exOf1 ht) rfl ⟨rfl, by decide⟩ ck20 hce hcv hcl ?_
      refine lv_astore_n (lv' := [(3, .ref q9), (0, .ref (ad 0 0)), (1, .int p0), (2, .ref ou)]) hx hb dL_vatOf_12 rfl hl (by decide) rfl (fun ls hl => ?_)
      refine lv_iconst (v := 1) hx hb dL_vatOf_13 (by decide) ?_
      refine W.widen (k := 2) (n := 12) (Nat.le_of_ble_eq_true rfl) (Nat.le_of_ble_eq_true rfl) ?_
      exact W.iret (v := 1) hx hb hr (fun t ht9 hW => ⟨congrArg (fun z => Outcome.returned (some (Value.int z))) ht.symm, fun _ => ⟨by rw [ht9]; exact hz, fun q hq => by rw [ht9]; exact ho q hq⟩, fun q => absurd (ht.symm.trans q) (by decide)⟩) (fun z h => (hL z h).elim) dL_vatOf_14
    · refine xw_c2 (i := 3) (j := 1) (ck := 15) (cj := 20) hown htab hE.2 ⟨by decide, by decide⟩ ⟨by decide, by decide⟩ (by decide) (exOf2 ht) rfl ⟨rfl, by decide⟩ ⟨rfl, by decide⟩ ck15 ck20 hce hcv hcl ?_
      refine lv_astore_n (lv' := [(3, .ref q9), (0, .ref (ad 0 0)), (1, .int p0), (2, .ref ou)]) hx hb dL_vatOf_15 rfl hl (by decide) rfl (fun ls hl => ?_)
      refine lv_iconst (v := 2) hx hb dL_vatOf_16 (by decide) ?_
      refine W.widen (k := 2) (n := 12) (Nat.le_of_ble_eq_true rfl) (Nat.le_of_ble_eq_true rfl) ?_
      exact W.iret (v := 2) hx hb hr (fun t ht9 hW => ⟨congrArg (fun z => Outcome.returned (some (Value.int z))) ht.symm, fun _ => ⟨by rw [ht9]; exact hz, fun q hq => by rw [ht9]; exact ho q hq⟩, fun q => absurd (ht.symm.trans q) (by decide)⟩) (fun z h => (hL z h).elim) dL_vatOf_17
    · exact absurd rfl hw9
set_option maxHeartbeats 4000000 in
set_option maxRecDepth 100000 in
theorem qL_offBy (la : Launch) (hst : la.stackTraces = false) (g : EG) (lo : Nat) (ad : Nat → Nat → Nat) (σ : Sg) (u : Nat → Int64) (τ : Sg) (hI : INV σ) (hA : XA lo ad σ) (ou : Nat) (hlo : lo ≤ ou) (hO : ¬ xown ad σ ou) (p0 : Int32) : Met la yL_offBy wsL_offBy ({ frames := 9, cells := 2, slots := 12, locals := 165 } : Room) (va_Pc [.ref (ad 0 0), .int p0, .ref ou] (fun U => XR g ad σ u τ U.heap ∧ OUTL g ou U.heap ∧ EL g lo U)) (QW ou (tW σ p0) (fun H0 Hm => Hm = H0) (ANL g ou ((f_off σ p0).toInt64))) 2 12 (fun q => lo ≤ q) := by
  refine met_ofWH (cc := cL_offBy) (maxL := 4) (ret := (some .int)) (by decide) rfl ?_
  intro p e s m args below meth c s₁ B hml hv
  obtain ⟨rfl, hX, ⟨f9, hof⟩, hE⟩ := hv
  have hK := hE.1.1.1
  have hx := B.exec
  have hb := B.bytes
  have hr := B.returns
  have hts := atoms_spec (ws := wsL_offBy) B.pre
  have hown : s.vm.findClass RL = some m.cls := findClass_of_methodNamed B.named
  have hlocks := B.notSynchronized
  have htab : c.exceptionTable.toList = [⟨0, 9, 12, 20⟩, ⟨0, 9, 15, 15⟩] := vx_table (x := yL_offBy) B (hts (.codeWith yL_offBy cL_offBy 4 (some .int) [(0, 9, 12, 20), (0, 9, 15, 15)]) List.mem_cons_self)
  have ck15 := hts (.classLink RL 15 (en 3)) (by decide +kernel)
  have ck20 := hts (.classLink RL 20 (en 1)) (by decide +kernel)
  have hl := lv_entry ([.ref (ad 0 0), .int p0, .ref ou]) (n := 4) (Nat.le_of_ble_eq_true rfl)
  rw [lg_entry_eq]
  generalize (lg_sl ([.ref (ad 0 0), .int p0, .ref ou]) ++ List.replicate (4 - (lg_sl ([.ref (ad 0 0), .int p0, .ref ou])).length) Slot.unset).toArray = ls at hl ⊢
  have hl : lv_has ls 4 [(0, .ref (ad 0 0)), (1, .int p0), (2, .ref ou)] := hl
  refine lv_aload_n hx hb dL_offBy_0 rfl (lv_at hl 2 rfl) ?_
  refine lv_iconst (v := 0) hx hb dL_offBy_1 (by decide) ?_
  refine lv_aload_n hx hb dL_offBy_2 rfl (lv_at hl 0 rfl) ?_
  refine lv_iload_n hx hb dL_offBy_3 rfl (lv_at hl 1 rfl) ?_
  refine xw_v (n := 1) (As := [.int p0]) (rest := [.int 0, .ref ou]) (G := (fun Hm => Hm = s.heap)) ⟨hx, hb, hml, hown, hts⟩ hE hX (qX6_offBy la hst g lo ad σ u τ hI hA p0) (fun U hU hEU => ⟨by rw [hU]; exact hX, hEU.1.1⟩) (fun U a g9 mk q => ⟨q.1, q.2.calling g9 mk a⟩) (fun a st oc t h0 hq => ⟨hq.1, hq.2.1, hq.2.2.trans h0⟩) gL_offBy_X6_offBy rfl rfl rfl (by decide +kernel) ⟨Nat.le_of_ble_eq_true rfl, Nat.le_of_ble_eq_true rfl⟩ rfl hl.1 rfl (Nat.le_of_ble_eq_true rfl) dL_offBy_4 ⟨Nat.le_of_ble_eq_true rfl, Nat.le_of_ble_eq_true rfl⟩ (fun H1 L hex hG hL => ?_) (fun H1 L q9 ce hex hz ho hce hcv hcl hL => ?_)
  · have ht : (tW σ p0) = 0 := exOfz (by decide) (tc_offBy σ p0) hex
    replace hG : H1 = s.heap := hG
    subst hG
    refine lv_i2l hx hb dL_offBy_7 rfl ?_
    refine sp_last hx hb hK 2 hof rfl (vin_dec (by decide +kernel)) dL_offBy_8 (fun H2 j h1 h2 h3 => ?_)
    rw [show (0 : Int32).toNatClampNeg = 0 from ti_0] at h1
    refine lv_goto (tgt := 18) hx hb dL_offBy_9 (by decide) ?_
    refine lv_iconst (v := 0) hx hb dL_offBy_18 (by decide) ?_
    refine W.widen (k := 2) (n := 12) (Nat.le_of_ble_eq_true rfl) (Nat.le_of_ble_eq_true rfl) ?_
    exact W.iret (v := 0) hx hb hr (fun t ht9 hW => ⟨congrArg (fun z => Outcome.returned (some (Value.int z))) ht.symm, fun q => absurd ht q, fun _ => ⟨_, rfl, by rw [ht9]; exact h2, fun q hq => by rw [ht9]; exact h3 q hq, by rw [ht9]; exact ⟨_, h1, pk_uLs⟩⟩⟩) (fun z hz => (List.mem_append.mp hz).elim (fun h => (hL z h).elim) (fun h => by rw [List.mem_singleton.mp h]; exact hlo)) dL_offBy_19
  · rcases tc_offBy σ p0 with ht | ht | ⟨ht, hw9⟩ | ⟨ht, hw9⟩
    · exact absurd ht (exOf0 hex)
    · refine xw_c1 (i := 1) (ck := 20) hown htab hE.2 ⟨by decide, by decide⟩ (exOf1 ht) rfl ⟨rfl, by decide⟩ ck20 hce hcv hcl ?_
      refine lv_astore_n (lv' := [(3, .ref q9), (0, .ref (ad 0 0)), (1, .int p0), (2, .ref ou)]) hx hb dL_offBy_12 rfl hl (by decide) rfl (fun ls hl => ?_)
      refine lv_iconst (v := 1) hx hb dL_offBy_13 (by decide) ?_
      refine W.widen (k := 2) (n := 12) (Nat.le_of_ble_eq_true rfl) (Nat.le_of_ble_eq_true rfl) ?_
      exact W.iret (v := 1) hx hb hr (fun t ht9 hW => ⟨congrArg (fun z => Outcome.returned (some (Value.int z))) ht.symm, fun _ => ⟨by rw [ht9]; exact hz, fun q hq => by rw [ht9]; exact ho q hq⟩, fun q => absurd (ht.symm.trans q) (by decide)⟩) (fun z h => (hL z h).elim) dL_offBy_14
    · refine xw_c2 (i := 3) (j := 1) (ck := 15) (cj := 20) hown htab hE.2 ⟨by decide, by decide⟩ ⟨by decide, by decide⟩ (by decide) (exOf2 ht) rfl ⟨rfl, by decide⟩ ⟨rfl, by decide⟩ ck15 ck20 hce hcv hcl ?_
      refine lv_astore_n (lv' := [(3, .ref q9), (0, .ref (ad 0 0)), (1, .int p0), (2, .ref ou)]) hx hb dL_offBy_15 rfl hl (by decide) rfl (fun ls hl => ?_)
      refine lv_iconst (v := 2) hx hb dL_offBy_16 (by decide) ?_
      refine W.widen (k := 2) (n := 12) (Nat.le_of_ble_eq_true rfl) (Nat.le_of_ble_eq_true rfl) ?_
      exact W.iret (v := 2) hx hb hr (fun t ht9 hW => ⟨congrArg (fun z => Outcome.returned (some (Value.int z))) ht.symm, fun _ => ⟨by rw [ht9]; exact hz, fun q hq => by rw [ht9]; exact ho q hq⟩, fun q => absurd (ht.symm.trans q) (by decide)⟩) (fun z h => (hL z h).elim) dL_offBy_17
    · exact absurd rfl hw9
set_option maxHeartbeats 4000000 in
set_option maxRecDepth 100000 in
theorem qL_distance (la : Launch) (hst : la.stackTraces = false) (g : EG) (lo : Nat) (ad : Nat → Nat → Nat) (σ : Sg) (u : Nat → Int64) (τ : Sg) (hI : INV σ) (hA : XA lo ad σ) (ou : Nat) (hlo : lo ≤ ou) (hO : ¬ xown ad σ ou) (p0 p1 : Int32) : Met la yL_distance wsL_distance ({ frames := 8, cells := 3, slots := 18, locals := 146 } : Room) (va_Pc [.ref (ad 0 0), .int p0, .int p1, .ref ou] (fun U => XR g ad σ u τ U.heap ∧ OUTL g ou U.heap ∧ EL g lo U)) (QW ou (t_dist σ p0 p1) (fun H0 Hm => Hm = H0) (ANL g ou ((f_apart σ p0 p1).toInt64))) 3 18 (fun q => lo ≤ q) := by
  refine met_ofWH (cc := cL_distance) (maxL := 5) (ret := (some .int)) (by decide) rfl ?_
  intro p e s m args below meth c s₁ B hml hv
  obtain ⟨rfl, hX, ⟨f9, hof⟩, hE⟩ := hv
  have hK := hE.1.1.1
  have hx := B.exec
  have hb := B.bytes
  have hr := B.returns
  have hts := atoms_spec (ws := wsL_distance) B.pre
  have hown : s.vm.findClass RL = some m.cls := findClass_of_methodNamed B.named
  have hlocks := B.notSynchronized
  have htab : c.exceptionTable.toList = [⟨0, 10, 13, 20⟩, ⟨0, 10, 17, 15⟩] := vx_table (x := yL_distance) B (hts (.codeWith yL_distance cL_distance 5 (some .int) [(0, 10, 13, 20), (0, 10, 17, 15)]) List.mem_cons_self)
  have ck15 := hts (.classLink RL 15 (en 3)) (by decide +kernel)
  have ck20 := hts (.classLink RL 20 (en 1)) (by decide +kernel)
  have hl := lv_entry ([.ref (ad 0 0), .int p0, .int p1, .ref ou]) (n := 5) (Nat.le_of_ble_eq_true rfl)
  rw [lg_entry_eq]
  generalize (lg_sl ([.ref (ad 0 0), .int p0, .int p1, .ref ou]) ++ List.replicate (5 - (lg_sl ([.ref (ad 0 0), .int p0, .int p1, .ref ou])).length) Slot.unset).toArray = ls at hl ⊢
  have hl : lv_has ls 5 [(0, .ref (ad 0 0)), (1, .int p0), (2, .int p1), (3, .ref ou)] := hl
  refine lv_aload_n hx hb dL_distance_0 rfl (lv_at hl 3 rfl) ?_
  refine lv_iconst (v := 0) hx hb dL_distance_1 (by decide) ?_
  refine lv_aload_n hx hb dL_distance_2 rfl (lv_at hl 0 rfl) ?_
  refine lv_iload_n hx hb dL_distance_3 rfl (lv_at hl 1 rfl) ?_
  refine lv_iload_n hx hb dL_distance_4 rfl (lv_at hl 2 rfl) ?_
  refine xw_v (n := 2) (As := [.int p0, .int p1]) (rest := [.int 0, .ref ou]) (G := (fun Hm => Hm = s.heap)) ⟨hx, hb, hml, hown, hts⟩ hE hX (qX6_distance la hst g lo ad σ u τ hI hA p0 p1) (fun U hU hEU => ⟨by rw [hU]; exact hX, hEU.1.1⟩) (fun U a g9 mk q => ⟨q.1, q.2.calling g9 mk a⟩) (fun a st oc t h0 hq => ⟨hq.1, hq.2.1, hq.2.2.trans h0⟩) gL_distance_X6_distance rfl rfl rfl (by decide +kernel) ⟨Nat.le_of_ble_eq_true rfl, Nat.le_of_ble_eq_true rfl⟩ rfl hl.1 rfl (Nat.le_of_ble_eq_true rfl) dL_distance_5 ⟨Nat.le_of_ble_eq_true rfl, Nat.le_of_ble_eq_true rfl⟩ (fun H1 L hex hG hL => ?_) (fun H1 L q9 ce hex hz ho hce hcv hcl hL => ?_)
  · have ht : (t_dist σ p0 p1) = 0 := exOfz (by decide) (tc_distance σ p0 p1) hex
    replace hG : H1 = s.heap := hG
    subst hG
    refine lv_i2l hx hb dL_distance_8 rfl ?_
    refine sp_last hx hb hK 2 hof rfl (vin_dec (by decide +kernel)) dL_distance_9 (fun H2 j h1 h2 h3 => ?_)
    rw [show (0 : Int32).toNatClampNeg = 0 from ti_0] at h1
    refine lv_goto (tgt := 21) hx hb dL_distance_10 (by decide) ?_
    refine lv_iconst (v := 0) hx hb dL_distance_21 (by decide) ?_
    refine W.widen (k := 3) (n := 18) (Nat.le_of_ble_eq_true rfl) (Nat.le_of_ble_eq_true rfl) ?_
    exact W.iret (v := 0) hx hb hr (fun t ht9 hW => ⟨congrArg (fun z => Outcome.returned (some (Value.int z))) ht.symm, fun q => absurd ht q, fun _ => ⟨_, rfl, by rw [ht9]; exact h2, fun q hq => by rw [ht9]; exact h3 q hq, by rw [ht9]; exact ⟨_, h1, pk_uLs⟩⟩⟩) (fun z hz => (List.mem_append.mp hz).elim (fun h => (hL z h).elim) (fun h => by rw [List.mem_singleton.mp h]; exact hlo)) dL_distance_22
  · rcases tc_distance σ p0 p1 with ht | ht | ⟨ht, hw9⟩ | ⟨ht, hw9⟩
    · exact absurd ht (exOf0 hex)
    · refine xw_c1 (i := 1) (ck := 20) hown htab hE.2 ⟨by decide, by decide⟩ (exOf1 ht) rfl ⟨rfl, by decide⟩ ck20 hce hcv hcl ?_
      refine lv_astore (lv' := [(4, .ref q9), (0, .ref (ad 0 0)), (1, .int p0), (2, .int p1), (3, .ref ou)]) hx hb dL_distance_13 hl (by decide) rfl (fun ls hl => ?_)
      refine lv_iconst (v := 1) hx hb dL_distance_15 (by decide) ?_
      refine W.widen (k := 3) (n := 18) (Nat.le_of_ble_eq_true rfl) (Nat.le_of_ble_eq_true rfl) ?_
      exact W.iret (v := 1) hx hb hr (fun t ht9 hW => ⟨congrArg (fun z => Outcome.returned (some (Value.int z))) ht.symm, fun _ => ⟨by rw [ht9]; exact hz, fun q hq => by rw [ht9]; exact ho q hq⟩, fun q => absurd (ht.symm.trans q) (by decide)⟩) (fun z h => (hL z h).elim) dL_distance_16
    · refine xw_c2 (i := 3) (j := 1) (ck := 15) (cj := 20) hown htab hE.2 ⟨by decide, by decide⟩ ⟨by decide, by decide⟩ (by decide) (exOf2 ht) rfl ⟨rfl, by decide⟩ ⟨rfl, by decide⟩ ck15 ck20 hce hcv hcl ?_
      refine lv_astore (lv' := [(4, .ref q9), (0, .ref (ad 0 0)), (1, .int p0), (2, .int p1), (3, .ref ou)]) hx hb dL_distance_17 hl (by decide) rfl (fun ls hl => ?_)
      refine lv_iconst (v := 2) hx hb dL_distance_19 (by decide) ?_
      refine W.widen (k := 3) (n := 18) (Nat.le_of_ble_eq_true rfl) (Nat.le_of_ble_eq_true rfl) ?_
      exact W.iret (v := 2) hx hb hr (fun t ht9 hW => ⟨congrArg (fun z => Outcome.returned (some (Value.int z))) ht.symm, fun _ => ⟨by rw [ht9]; exact hz, fun q hq => by rw [ht9]; exact ho q hq⟩, fun q => absurd (ht.symm.trans q) (by decide)⟩) (fun z h => (hL z h).elim) dL_distance_20
    · exact absurd rfl hw9
set_option maxHeartbeats 4000000 in
set_option maxRecDepth 100000 in
theorem qL_nearest (la : Launch) (hst : la.stackTraces = false) (g : EG) (lo : Nat) (ad : Nat → Nat → Nat) (σ : Sg) (u : Nat → Int64) (τ : Sg) (hI : INV σ) (hA : XA lo ad σ) (ou : Nat) (hlo : lo ≤ ou) (hO : ¬ xown ad σ ou) (p0 : Int32) : Met la yL_nearest wsL_nearest ({ frames := 9, cells := 3, slots := 18, locals := 173 } : Room) (va_Pc [.ref (ad 0 0), .int p0, .ref ou] (fun U => XR g ad σ u τ U.heap ∧ OUTL g ou U.heap ∧ EL g lo U)) (QW ou (t_near σ p0) (fun H0 Hm => Hm = H0) (ANL g ou ((bestF σ p0 (nL σ)).toInt64))) 3 18 (fun q => lo ≤ q) := by
  refine met_ofWH (cc := cL_nearest) (maxL := 4) (ret := (some .int)) (by decide) rfl ?_
  intro p e s m args below meth c s₁ B hml hv
  obtain ⟨rfl, hX, ⟨f9, hof⟩, hE⟩ := hv
  have hK := hE.1.1.1
  have hx := B.exec
  have hb := B.bytes
  have hr := B.returns
  have hts := atoms_spec (ws := wsL_nearest) B.pre
  have hown : s.vm.findClass RL = some m.cls := findClass_of_methodNamed B.named
  have hlocks := B.notSynchronized
  have htab : c.exceptionTable.toList = [⟨0, 9, 12, 20⟩, ⟨0, 9, 15, 15⟩, ⟨0, 9, 18, 53⟩] := vx_table (x := yL_nearest) B (hts (.codeWith yL_nearest cL_nearest 4 (some .int) [(0, 9, 12, 20), (0, 9, 15, 15), (0, 9, 18, 53)]) List.mem_cons_self)
  have ck15 := hts (.classLink RL 15 (en 3)) (by decide +kernel)
  have ck20 := hts (.classLink RL 20 (en 1)) (by decide +kernel)
  have ck53 := hts (.classLink RL 53 (en 4)) (by decide +kernel)
  have hl := lv_entry ([.ref (ad 0 0), .int p0, .ref ou]) (n := 4) (Nat.le_of_ble_eq_true rfl)
  rw [lg_entry_eq]
  generalize (lg_sl ([.ref (ad 0 0), .int p0, .ref ou]) ++ List.replicate (4 - (lg_sl ([.ref (ad 0 0), .int p0, .ref ou])).length) Slot.unset).toArray = ls at hl ⊢
  have hl : lv_has ls 4 [(0, .ref (ad 0 0)), (1, .int p0), (2, .ref ou)] := hl
  refine lv_aload_n hx hb dL_nearest_0 rfl (lv_at hl 2 rfl) ?_
  refine lv_iconst (v := 0) hx hb dL_nearest_1 (by decide) ?_
  refine lv_aload_n hx hb dL_nearest_2 rfl (lv_at hl 0 rfl) ?_
  refine lv_iload_n hx hb dL_nearest_3 rfl (lv_at hl 1 rfl) ?_
  refine xw_v (n := 1) (As := [.int p0]) (rest := [.int 0, .ref ou]) (G := (fun Hm => Hm = s.heap)) ⟨hx, hb, hml, hown, hts⟩ hE hX (qX6_nearest la hst g lo ad σ u τ hI hA p0) (fun U hU hEU => ⟨by rw [hU]; exact hX, hEU.1.1⟩) (fun U a g9 mk q => ⟨q.1, q.2.calling g9 mk a⟩) (fun a st oc t h0 hq => ⟨hq.1, hq.2.1, hq.2.2.trans h0⟩) gL_nearest_X6_nearest rfl rfl rfl (by decide +kernel) ⟨Nat.le_of_ble_eq_true rfl, Nat.le_of_ble_eq_true rfl⟩ rfl hl.1 rfl (Nat.le_of_ble_eq_true rfl) dL_nearest_4 ⟨Nat.le_of_ble_eq_true rfl, Nat.le_of_ble_eq_true rfl⟩ (fun H1 L hex hG hL => ?_) (fun H1 L q9 ce hex hz ho hce hcv hcl hL => ?_)
  · have ht : (t_near σ p0) = 0 := exOfz (by decide) (tc_nearest σ p0) hex
    replace hG : H1 = s.heap := hG
    subst hG
    refine lv_i2l hx hb dL_nearest_7 rfl ?_
    refine sp_last hx hb hK 2 hof rfl (vin_dec (by decide +kernel)) dL_nearest_8 (fun H2 j h1 h2 h3 => ?_)
    rw [show (0 : Int32).toNatClampNeg = 0 from ti_0] at h1
    refine lv_goto (tgt := 21) hx hb dL_nearest_9 (by decide) ?_
    refine lv_iconst (v := 0) hx hb dL_nearest_21 (by decide) ?_
    refine W.widen (k := 3) (n := 18) (Nat.le_of_ble_eq_true rfl) (Nat.le_of_ble_eq_true rfl) ?_
    exact W.iret (v := 0) hx hb hr (fun t ht9 hW => ⟨congrArg (fun z => Outcome.returned (some (Value.int z))) ht.symm, fun q => absurd ht q, fun _ => ⟨_, rfl, by rw [ht9]; exact h2, fun q hq => by rw [ht9]; exact h3 q hq, by rw [ht9]; exact ⟨_, h1, pk_uLs⟩⟩⟩) (fun z hz => (List.mem_append.mp hz).elim (fun h => (hL z h).elim) (fun h => by rw [List.mem_singleton.mp h]; exact hlo)) dL_nearest_22
  · rcases tc_nearest σ p0 with ht | ht | ⟨ht, hw9⟩ | ⟨ht, hw9⟩
    · exact absurd ht (exOf0 hex)
    · refine xw_c1 (i := 1) (ck := 20) hown htab hE.2 ⟨by decide, by decide⟩ (exOf1 ht) rfl ⟨rfl, by decide⟩ ck20 hce hcv hcl ?_
      refine lv_astore_n (lv' := [(3, .ref q9), (0, .ref (ad 0 0)), (1, .int p0), (2, .ref ou)]) hx hb dL_nearest_12 rfl hl (by decide) rfl (fun ls hl => ?_)
      refine lv_iconst (v := 1) hx hb dL_nearest_13 (by decide) ?_
      refine W.widen (k := 3) (n := 18) (Nat.le_of_ble_eq_true rfl) (Nat.le_of_ble_eq_true rfl) ?_
      exact W.iret (v := 1) hx hb hr (fun t ht9 hW => ⟨congrArg (fun z => Outcome.returned (some (Value.int z))) ht.symm, fun _ => ⟨by rw [ht9]; exact hz, fun q hq => by rw [ht9]; exact ho q hq⟩, fun q => absurd (ht.symm.trans q) (by decide)⟩) (fun z h => (hL z h).elim) dL_nearest_14
    · refine xw_c2 (i := 3) (j := 1) (ck := 15) (cj := 20) hown htab hE.2 ⟨by decide, by decide⟩ ⟨by decide, by decide⟩ (by decide) (exOf2 ht) rfl ⟨rfl, by decide⟩ ⟨rfl, by decide⟩ ck15 ck20 hce hcv hcl ?_
      refine lv_astore_n (lv' := [(3, .ref q9), (0, .ref (ad 0 0)), (1, .int p0), (2, .ref ou)]) hx hb dL_nearest_15 rfl hl (by decide) rfl (fun ls hl => ?_)
      refine lv_iconst (v := 2) hx hb dL_nearest_16 (by decide) ?_
      refine W.widen (k := 3) (n := 18) (Nat.le_of_ble_eq_true rfl) (Nat.le_of_ble_eq_true rfl) ?_
      exact W.iret (v := 2) hx hb hr (fun t ht9 hW => ⟨congrArg (fun z => Outcome.returned (some (Value.int z))) ht.symm, fun _ => ⟨by rw [ht9]; exact hz, fun q hq => by rw [ht9]; exact ho q hq⟩, fun q => absurd (ht.symm.trans q) (by decide)⟩) (fun z h => (hL z h).elim) dL_nearest_17
    · refine xw_c3 (i := 4) (j := 3) (k := 1) (ck := 53) (cj := 15) (cz := 20) hown htab hE.2 ⟨by decide, by decide⟩ ⟨by decide, by decide⟩ ⟨by decide, by decide⟩ ⟨by decide, by decide⟩ (exOf3 ht) rfl ⟨rfl, by decide⟩ ⟨rfl, by decide⟩ ⟨rfl, by decide⟩ ck53 ck15 ck20 hce hcv hcl ?_
      refine lv_astore_n (lv' := [(3, .ref q9), (0, .ref (ad 0 0)), (1, .int p0), (2, .ref ou)]) hx hb dL_nearest_18 rfl hl (by decide) rfl (fun ls hl => ?_)
      refine lv_iconst (v := 3) hx hb dL_nearest_19 (by decide) ?_
      refine W.widen (k := 3) (n := 18) (Nat.le_of_ble_eq_true rfl) (Nat.le_of_ble_eq_true rfl) ?_
      exact W.iret (v := 3) hx hb hr (fun t ht9 hW => ⟨congrArg (fun z => Outcome.returned (some (Value.int z))) ht.symm, fun _ => ⟨by rw [ht9]; exact hz, fun q hq => by rw [ht9]; exact ho q hq⟩, fun q => absurd (ht.symm.trans q) (by decide)⟩) (fun z h => (hL z h).elim) dL_nearest_20
set_option maxHeartbeats 4000000 in
set_option maxRecDepth 100000 in
theorem qL_byLight (la : Launch) (hst : la.stackTraces = false) (g : EG) (lo : Nat) (ad : Nat → Nat → Nat) (σ : Sg) (u : Nat → Int64) (τ : Sg) (hI : INV σ) (hA : XA lo ad σ) (ou : Nat) (hlo : lo ≤ ou) (hO : ¬ xown ad σ ou) (p0 : Int32) : Met la yL_byLight wsL_byLight ({ frames := 7, cells := 1, slots := 6, locals := 125 } : Room) (va_Pc [.ref (ad 0 0), .int p0, .ref ou] (fun U => XR g ad σ u τ U.heap ∧ OUTL g ou U.heap ∧ EL g lo U)) (QW ou (t_byLight σ p0) (fun H0 Hm => Hm = H0) (ANL g ou ((f_byLight σ p0).toInt64))) 1 6 (fun q => lo ≤ q) := by
  refine met_ofWH (cc := cL_byLight) (maxL := 4) (ret := (some .int)) (by decide) rfl ?_
  intro p e s m args below meth c s₁ B hml hv
  obtain ⟨rfl, hX, ⟨f9, hof⟩, hE⟩ := hv
  have hK := hE.1.1.1
  have hx := B.exec
  have hb := B.bytes
  have hr := B.returns
  have hts := atoms_spec (ws := wsL_byLight) B.pre
  have hown : s.vm.findClass RL = some m.cls := findClass_of_methodNamed B.named
  have hlocks := B.notSynchronized
  have htab : c.exceptionTable.toList = [⟨0, 9, 12, 81⟩] := vx_table (x := yL_byLight) B (hts (.codeWith yL_byLight cL_byLight 4 (some .int) [(0, 9, 12, 81)]) List.mem_cons_self)
  have ck81 := hts (.classLink RL 81 (en 5)) (by decide +kernel)
  have hl := lv_entry ([.ref (ad 0 0), .int p0, .ref ou]) (n := 4) (Nat.le_of_ble_eq_true rfl)
  rw [lg_entry_eq]
  generalize (lg_sl ([.ref (ad 0 0), .int p0, .ref ou]) ++ List.replicate (4 - (lg_sl ([.ref (ad 0 0), .int p0, .ref ou])).length) Slot.unset).toArray = ls at hl ⊢
  have hl : lv_has ls 4 [(0, .ref (ad 0 0)), (1, .int p0), (2, .ref ou)] := hl
  refine lv_aload_n hx hb dL_byLight_0 rfl (lv_at hl 2 rfl) ?_
  refine lv_iconst (v := 0) hx hb dL_byLight_1 (by decide) ?_
  refine lv_aload_n hx hb dL_byLight_2 rfl (lv_at hl 0 rfl) ?_
  refine lv_iload_n hx hb dL_byLight_3 rfl (lv_at hl 1 rfl) ?_
  refine xw_v (n := 1) (As := [.int p0]) (rest := [.int 0, .ref ou]) (G := (fun Hm => Hm = s.heap)) ⟨hx, hb, hml, hown, hts⟩ hE hX (qX6_byLight la hst g lo ad σ u τ hI hA p0) (fun U hU hEU => ⟨by rw [hU]; exact hX, hEU.1.1⟩) (fun U a g9 mk q => ⟨q.1, q.2.calling g9 mk a⟩) (fun a st oc t h0 hq => ⟨hq.1, hq.2.1, hq.2.2.trans h0⟩) gL_byLight_X6_byLight rfl rfl rfl (by decide +kernel) ⟨Nat.le_of_ble_eq_true rfl, Nat.le_of_ble_eq_true rfl⟩ rfl hl.1 rfl (Nat.le_of_ble_eq_true rfl) dL_byLight_4 ⟨Nat.le_of_ble_eq_true rfl, Nat.le_of_ble_eq_true rfl⟩ (fun H1 L hex hG hL => ?_) (fun H1 L q9 ce hex hz ho hce hcv hcl hL => ?_)
  · have ht : (t_byLight σ p0) = 0 := exOfz (by decide) (tc_byLight σ p0) hex
    replace hG : H1 = s.heap := hG
    subst hG
    refine lv_i2l hx hb dL_byLight_7 rfl ?_
    refine sp_last hx hb hK 2 hof rfl (vin_dec (by decide +kernel)) dL_byLight_8 (fun H2 j h1 h2 h3 => ?_)
    rw [show (0 : Int32).toNatClampNeg = 0 from ti_0] at h1
    refine lv_goto (tgt := 15) hx hb dL_byLight_9 (by decide) ?_
    refine lv_iconst (v := 0) hx hb dL_byLight_15 (by decide) ?_
    refine W.widen (k := 1) (n := 6) (Nat.le_of_ble_eq_true rfl) (Nat.le_of_ble_eq_true rfl) ?_
    exact W.iret (v := 0) hx hb hr (fun t ht9 hW => ⟨congrArg (fun z => Outcome.returned (some (Value.int z))) ht.symm, fun q => absurd ht q, fun _ => ⟨_, rfl, by rw [ht9]; exact h2, fun q hq => by rw [ht9]; exact h3 q hq, by rw [ht9]; exact ⟨_, h1, pk_uLs⟩⟩⟩) (fun z hz => (List.mem_append.mp hz).elim (fun h => (hL z h).elim) (fun h => by rw [List.mem_singleton.mp h]; exact hlo)) dL_byLight_16
  · rcases tc_byLight σ p0 with ht | ht | ⟨ht, hw9⟩ | ⟨ht, hw9⟩
    · exact absurd ht (exOf0 hex)
    · refine xw_c1 (i := 5) (ck := 81) hown htab hE.2 ⟨by decide, by decide⟩ (exOf1 ht) rfl ⟨rfl, by decide⟩ ck81 hce hcv hcl ?_
      refine lv_astore_n (lv' := [(3, .ref q9), (0, .ref (ad 0 0)), (1, .int p0), (2, .ref ou)]) hx hb dL_byLight_12 rfl hl (by decide) rfl (fun ls hl => ?_)
      refine lv_iconst (v := 1) hx hb dL_byLight_13 (by decide) ?_
      refine W.widen (k := 1) (n := 6) (Nat.le_of_ble_eq_true rfl) (Nat.le_of_ble_eq_true rfl) ?_
      exact W.iret (v := 1) hx hb hr (fun t ht9 hW => ⟨congrArg (fun z => Outcome.returned (some (Value.int z))) ht.symm, fun _ => ⟨by rw [ht9]; exact hz, fun q hq => by rw [ht9]; exact ho q hq⟩, fun q => absurd (ht.symm.trans q) (by decide)⟩) (fun z h => (hL z h).elim) dL_byLight_14
    · exact absurd rfl hw9
    · exact absurd rfl hw9
set_option maxHeartbeats 4000000 in
set_option maxRecDepth 100000 in
theorem qL_clock (la : Launch) (hst : la.stackTraces = false) (g : EG) (lo : Nat) (ad : Nat → Nat → Nat) (σ : Sg) (u : Nat → Int64) (τ : Sg) (hI : INV σ) (hA : XA lo ad σ) (ou : Nat) (hlo : lo ≤ ou) (hO : ¬ xown ad σ ou) (p0 : Int32) : Met la yL_clock wsL_clock ({ frames := 8, cells := 1, slots := 6, locals := 143 } : Room) (va_Pc [.ref (ad 0 0), .int p0, .ref ou] (fun U => XR g ad σ u τ U.heap ∧ OUTL g ou U.heap ∧ EL g lo U)) (QW ou (tV σ p0) (fun H0 Hm => Hm = H0) (ANL g ou ((σ 25 (ti p0)).toInt64))) 1 6 (fun q => lo ≤ q) := by
  refine met_ofWH (cc := cL_clock) (maxL := 4) (ret := (some .int)) (by decide) rfl ?_
  intro p e s m args below meth c s₁ B hml hv
  obtain ⟨rfl, hX, ⟨f9, hof⟩, hE⟩ := hv
  have hK := hE.1.1.1
  have hx := B.exec
  have hb := B.bytes
  have hr := B.returns
  have hts := atoms_spec (ws := wsL_clock) B.pre
  have hown : s.vm.findClass RL = some m.cls := findClass_of_methodNamed B.named
  have hlocks := B.notSynchronized
  have htab : c.exceptionTable.toList = [⟨0, 9, 12, 20⟩] := vx_table (x := yL_clock) B (hts (.codeWith yL_clock cL_clock 4 (some .int) [(0, 9, 12, 20)]) List.mem_cons_self)
  have ck20 := hts (.classLink RL 20 (en 1)) (by decide +kernel)
  have hl := lv_entry ([.ref (ad 0 0), .int p0, .ref ou]) (n := 4) (Nat.le_of_ble_eq_true rfl)
  rw [lg_entry_eq]
  generalize (lg_sl ([.ref (ad 0 0), .int p0, .ref ou]) ++ List.replicate (4 - (lg_sl ([.ref (ad 0 0), .int p0, .ref ou])).length) Slot.unset).toArray = ls at hl ⊢
  have hl : lv_has ls 4 [(0, .ref (ad 0 0)), (1, .int p0), (2, .ref ou)] := hl
  refine lv_aload_n hx hb dL_clock_0 rfl (lv_at hl 2 rfl) ?_
  refine lv_iconst (v := 0) hx hb dL_clock_1 (by decide) ?_
  refine lv_aload_n hx hb dL_clock_2 rfl (lv_at hl 0 rfl) ?_
  refine lv_iload_n hx hb dL_clock_3 rfl (lv_at hl 1 rfl) ?_
  refine xw_v (n := 1) (As := [.int p0]) (rest := [.int 0, .ref ou]) (G := (fun Hm => Hm = s.heap)) ⟨hx, hb, hml, hown, hts⟩ hE hX (qX6_clock la hst g lo ad σ u τ hI hA p0) (fun U hU hEU => ⟨by rw [hU]; exact hX, hEU.1.1⟩) (fun U a g9 mk q => ⟨q.1, q.2.calling g9 mk a⟩) (fun a st oc t h0 hq => ⟨hq.1, hq.2.1, hq.2.2.trans h0⟩) gL_clock_X6_clock rfl rfl rfl (by decide +kernel) ⟨Nat.le_of_ble_eq_true rfl, Nat.le_of_ble_eq_true rfl⟩ rfl hl.1 rfl (Nat.le_of_ble_eq_true rfl) dL_clock_4 ⟨Nat.le_of_ble_eq_true rfl, Nat.le_of_ble_eq_true rfl⟩ (fun H1 L hex hG hL => ?_) (fun H1 L q9 ce hex hz ho hce hcv hcl hL => ?_)
  · have ht : (tV σ p0) = 0 := exOfz (by decide) (tc_clock σ p0) hex
    replace hG : H1 = s.heap := hG
    subst hG
    refine lv_i2l hx hb dL_clock_7 rfl ?_
    refine sp_last hx hb hK 2 hof rfl (vin_dec (by decide +kernel)) dL_clock_8 (fun H2 j h1 h2 h3 => ?_)
    rw [show (0 : Int32).toNatClampNeg = 0 from ti_0] at h1
    refine lv_goto (tgt := 15) hx hb dL_clock_9 (by decide) ?_
    refine lv_iconst (v := 0) hx hb dL_clock_15 (by decide) ?_
    refine W.widen (k := 1) (n := 6) (Nat.le_of_ble_eq_true rfl) (Nat.le_of_ble_eq_true rfl) ?_
    exact W.iret (v := 0) hx hb hr (fun t ht9 hW => ⟨congrArg (fun z => Outcome.returned (some (Value.int z))) ht.symm, fun q => absurd ht q, fun _ => ⟨_, rfl, by rw [ht9]; exact h2, fun q hq => by rw [ht9]; exact h3 q hq, by rw [ht9]; exact ⟨_, h1, pk_uLs⟩⟩⟩) (fun z hz => (List.mem_append.mp hz).elim (fun h => (hL z h).elim) (fun h => by rw [List.mem_singleton.mp h]; exact hlo)) dL_clock_16
  · rcases tc_clock σ p0 with ht | ht | ⟨ht, hw9⟩ | ⟨ht, hw9⟩
    · exact absurd ht (exOf0 hex)
    · refine xw_c1 (i := 1) (ck := 20) hown htab hE.2 ⟨by decide, by decide⟩ (exOf1 ht) rfl ⟨rfl, by decide⟩ ck20 hce hcv hcl ?_
      refine lv_astore_n (lv' := [(3, .ref q9), (0, .ref (ad 0 0)), (1, .int p0), (2, .ref ou)]) hx hb dL_clock_12 rfl hl (by decide) rfl (fun ls hl => ?_)
      refine lv_iconst (v := 1) hx hb dL_clock_13 (by decide) ?_
      refine W.widen (k := 1) (n := 6) (Nat.le_of_ble_eq_true rfl) (Nat.le_of_ble_eq_true rfl) ?_
      exact W.iret (v := 1) hx hb hr (fun t ht9 hW => ⟨congrArg (fun z => Outcome.returned (some (Value.int z))) ht.symm, fun _ => ⟨by rw [ht9]; exact hz, fun q hq => by rw [ht9]; exact ho q hq⟩, fun q => absurd (ht.symm.trans q) (by decide)⟩) (fun z h => (hL z h).elim) dL_clock_14
    · exact absurd rfl hw9
    · exact absurd rfl hw9
set_option maxHeartbeats 4000000 in
set_option maxRecDepth 100000 in
theorem qL_cleanings (la : Launch) (hst : la.stackTraces = false) (g : EG) (lo : Nat) (ad : Nat → Nat → Nat) (σ : Sg) (u : Nat → Int64) (τ : Sg) (hI : INV σ) (hA : XA lo ad σ) (ou : Nat) (hlo : lo ≤ ou) (hO : ¬ xown ad σ ou) (p0 : Int32) : Met la yL_cleanings wsL_cleanings ({ frames := 8, cells := 1, slots := 6, locals := 143 } : Room) (va_Pc [.ref (ad 0 0), .int p0, .ref ou] (fun U => XR g ad σ u τ U.heap ∧ OUTL g ou U.heap ∧ EL g lo U)) (QW ou (tV σ p0) (fun H0 Hm => Hm = H0) (ANL g ou ((σ 26 (ti p0)).toInt64))) 1 6 (fun q => lo ≤ q) := by
  refine met_ofWH (cc := cL_cleanings) (maxL := 4) (ret := (some .int)) (by decide) rfl ?_
  intro p e s m args below meth c s₁ B hml hv
  obtain ⟨rfl, hX, ⟨f9, hof⟩, hE⟩ := hv
  have hK := hE.1.1.1
  have hx := B.exec
  have hb := B.bytes
  have hr := B.returns
  have hts := atoms_spec (ws := wsL_cleanings) B.pre
  have hown : s.vm.findClass RL = some m.cls := findClass_of_methodNamed B.named
  have hlocks := B.notSynchronized
  have htab : c.exceptionTable.toList = [⟨0, 9, 12, 20⟩] := vx_table (x := yL_cleanings) B (hts (.codeWith yL_cleanings cL_cleanings 4 (some .int) [(0, 9, 12, 20)]) List.mem_cons_self)
  have ck20 := hts (.classLink RL 20 (en 1)) (by decide +kernel)
  have hl := lv_entry ([.ref (ad 0 0), .int p0, .ref ou]) (n := 4) (Nat.le_of_ble_eq_true rfl)
  rw [lg_entry_eq]
  generalize (lg_sl ([.ref (ad 0 0), .int p0, .ref ou]) ++ List.replicate (4 - (lg_sl ([.ref (ad 0 0), .int p0, .ref ou])).length) Slot.unset).toArray = ls at hl ⊢
  have hl : lv_has ls 4 [(0, .ref (ad 0 0)), (1, .int p0), (2, .ref ou)] := hl
  refine lv_aload_n hx hb dL_cleanings_0 rfl (lv_at hl 2 rfl) ?_
  refine lv_iconst (v := 0) hx hb dL_cleanings_1 (by decide) ?_
  refine lv_aload_n hx hb dL_cleanings_2 rfl (lv_at hl 0 rfl) ?_
  refine lv_iload_n hx hb dL_cleanings_3 rfl (lv_at hl 1 rfl) ?_
  refine xw_v (n := 1) (As := [.int p0]) (rest := [.int 0, .ref ou]) (G := (fun Hm => Hm = s.heap)) ⟨hx, hb, hml, hown, hts⟩ hE hX (qX6_cleanings la hst g lo ad σ u τ hI hA p0) (fun U hU hEU => ⟨by rw [hU]; exact hX, hEU.1.1⟩) (fun U a g9 mk q => ⟨q.1, q.2.calling g9 mk a⟩) (fun a st oc t h0 hq => ⟨hq.1, hq.2.1, hq.2.2.trans h0⟩) gL_cleanings_X6_cleanings rfl rfl rfl (by decide +kernel) ⟨Nat.le_of_ble_eq_true rfl, Nat.le_of_ble_eq_true rfl⟩ rfl hl.1 rfl (Nat.le_of_ble_eq_true rfl) dL_cleanings_4 ⟨Nat.le_of_ble_eq_true rfl, Nat.le_of_ble_eq_true rfl⟩ (fun H1 L hex hG hL => ?_) (fun H1 L q9 ce hex hz ho hce hcv hcl hL => ?_)
  · have ht : (tV σ p0) = 0 := exOfz (by decide) (tc_cleanings σ p0) hex
    replace hG : H1 = s.heap := hG
    subst hG
    refine lv_i2l hx hb dL_cleanings_7 rfl ?_
    refine sp_last hx hb hK 2 hof rfl (vin_dec (by decide +kernel)) dL_cleanings_8 (fun H2 j h1 h2 h3 => ?_)
    rw [show (0 : Int32).toNatClampNeg = 0 from ti_0] at h1
    refine lv_goto (tgt := 15) hx hb dL_cleanings_9 (by decide) ?_
    refine lv_iconst (v := 0) hx hb dL_cleanings_15 (by decide) ?_
    refine W.widen (k := 1) (n := 6) (Nat.le_of_ble_eq_true rfl) (Nat.le_of_ble_eq_true rfl) ?_
    exact W.iret (v := 0) hx hb hr (fun t ht9 hW => ⟨congrArg (fun z => Outcome.returned (some (Value.int z))) ht.symm, fun q => absurd ht q, fun _ => ⟨_, rfl, by rw [ht9]; exact h2, fun q hq => by rw [ht9]; exact h3 q hq, by rw [ht9]; exact ⟨_, h1, pk_uLs⟩⟩⟩) (fun z hz => (List.mem_append.mp hz).elim (fun h => (hL z h).elim) (fun h => by rw [List.mem_singleton.mp h]; exact hlo)) dL_cleanings_16
  · rcases tc_cleanings σ p0 with ht | ht | ⟨ht, hw9⟩ | ⟨ht, hw9⟩
    · exact absurd ht (exOf0 hex)
    · refine xw_c1 (i := 1) (ck := 20) hown htab hE.2 ⟨by decide, by decide⟩ (exOf1 ht) rfl ⟨rfl, by decide⟩ ck20 hce hcv hcl ?_
      refine lv_astore_n (lv' := [(3, .ref q9), (0, .ref (ad 0 0)), (1, .int p0), (2, .ref ou)]) hx hb dL_cleanings_12 rfl hl (by decide) rfl (fun ls hl => ?_)
      refine lv_iconst (v := 1) hx hb dL_cleanings_13 (by decide) ?_
      refine W.widen (k := 1) (n := 6) (Nat.le_of_ble_eq_true rfl) (Nat.le_of_ble_eq_true rfl) ?_
      exact W.iret (v := 1) hx hb hr (fun t ht9 hW => ⟨congrArg (fun z => Outcome.returned (some (Value.int z))) ht.symm, fun _ => ⟨by rw [ht9]; exact hz, fun q hq => by rw [ht9]; exact ho q hq⟩, fun q => absurd (ht.symm.trans q) (by decide)⟩) (fun z h => (hL z h).elim) dL_cleanings_14
    · exact absurd rfl hw9
    · exact absurd rfl hw9
set_option maxHeartbeats 4000000 in
set_option maxRecDepth 100000 in
theorem qL_lightIn (la : Launch) (hst : la.stackTraces = false) (g : EG) (lo : Nat) (ad : Nat → Nat → Nat) (σ : Sg) (u : Nat → Int64) (τ : Sg) (hI : INV σ) (hA : XA lo ad σ) (ou : Nat) (hlo : lo ≤ ou) (hO : ¬ xown ad σ ou) (p0 : Int32) : Met la yL_lightIn wsL_lightIn ({ frames := 8, cells := 2, slots := 12, locals := 144 } : Room) (va_Pc [.ref (ad 0 0), .int p0, .ref ou] (fun U => XR g ad σ u τ U.heap ∧ OUTL g ou U.heap ∧ EL g lo U)) (QW ou (t_cell σ 23 p0) (fun H0 Hm => Hm = H0) (ANL g ou ((σ 23 (ti p0)).toInt64))) 2 12 (fun q => lo ≤ q) := by
  refine met_ofWH (cc := cL_lightIn) (maxL := 4) (ret := (some .int)) (by decide) rfl ?_
  intro p e s m args below meth c s₁ B hml hv
  obtain ⟨rfl, hX, ⟨f9, hof⟩, hE⟩ := hv
  have hK := hE.1.1.1
  have hx := B.exec
  have hb := B.bytes
  have hr := B.returns
  have hts := atoms_spec (ws := wsL_lightIn) B.pre
  have hown : s.vm.findClass RL = some m.cls := findClass_of_methodNamed B.named
  have hlocks := B.notSynchronized
  have htab : c.exceptionTable.toList = [⟨0, 9, 12, 20⟩, ⟨0, 9, 15, 15⟩] := vx_table (x := yL_lightIn) B (hts (.codeWith yL_lightIn cL_lightIn 4 (some .int) [(0, 9, 12, 20), (0, 9, 15, 15)]) List.mem_cons_self)
  have ck15 := hts (.classLink RL 15 (en 3)) (by decide +kernel)
  have ck20 := hts (.classLink RL 20 (en 1)) (by decide +kernel)
  have hl := lv_entry ([.ref (ad 0 0), .int p0, .ref ou]) (n := 4) (Nat.le_of_ble_eq_true rfl)
  rw [lg_entry_eq]
  generalize (lg_sl ([.ref (ad 0 0), .int p0, .ref ou]) ++ List.replicate (4 - (lg_sl ([.ref (ad 0 0), .int p0, .ref ou])).length) Slot.unset).toArray = ls at hl ⊢
  have hl : lv_has ls 4 [(0, .ref (ad 0 0)), (1, .int p0), (2, .ref ou)] := hl
  refine lv_aload_n hx hb dL_lightIn_0 rfl (lv_at hl 2 rfl) ?_
  refine lv_iconst (v := 0) hx hb dL_lightIn_1 (by decide) ?_
  refine lv_aload_n hx hb dL_lightIn_2 rfl (lv_at hl 0 rfl) ?_
  refine lv_iload_n hx hb dL_lightIn_3 rfl (lv_at hl 1 rfl) ?_
  refine xw_v (n := 1) (As := [.int p0]) (rest := [.int 0, .ref ou]) (G := (fun Hm => Hm = s.heap)) ⟨hx, hb, hml, hown, hts⟩ hE hX (qX6_lightIn la hst g lo ad σ u τ hI hA p0) (fun U hU hEU => ⟨by rw [hU]; exact hX, hEU.1.1⟩) (fun U a g9 mk q => ⟨q.1, q.2.calling g9 mk a⟩) (fun a st oc t h0 hq => ⟨hq.1, hq.2.1, hq.2.2.trans h0⟩) gL_lightIn_X6_lightIn rfl rfl rfl (by decide +kernel) ⟨Nat.le_of_ble_eq_true rfl, Nat.le_of_ble_eq_true rfl⟩ rfl hl.1 rfl (Nat.le_of_ble_eq_true rfl) dL_lightIn_4 ⟨Nat.le_of_ble_eq_true rfl, Nat.le_of_ble_eq_true rfl⟩ (fun H1 L hex hG hL => ?_) (fun H1 L q9 ce hex hz ho hce hcv hcl hL => ?_)
  · have ht : (t_cell σ 23 p0) = 0 := exOfz (by decide) (tc_lightIn σ p0) hex
    replace hG : H1 = s.heap := hG
    subst hG
    refine lv_i2l hx hb dL_lightIn_7 rfl ?_
    refine sp_last hx hb hK 2 hof rfl (vin_dec (by decide +kernel)) dL_lightIn_8 (fun H2 j h1 h2 h3 => ?_)
    rw [show (0 : Int32).toNatClampNeg = 0 from ti_0] at h1
    refine lv_goto (tgt := 18) hx hb dL_lightIn_9 (by decide) ?_
    refine lv_iconst (v := 0) hx hb dL_lightIn_18 (by decide) ?_
    refine W.widen (k := 2) (n := 12) (Nat.le_of_ble_eq_true rfl) (Nat.le_of_ble_eq_true rfl) ?_
    exact W.iret (v := 0) hx hb hr (fun t ht9 hW => ⟨congrArg (fun z => Outcome.returned (some (Value.int z))) ht.symm, fun q => absurd ht q, fun _ => ⟨_, rfl, by rw [ht9]; exact h2, fun q hq => by rw [ht9]; exact h3 q hq, by rw [ht9]; exact ⟨_, h1, pk_uLs⟩⟩⟩) (fun z hz => (List.mem_append.mp hz).elim (fun h => (hL z h).elim) (fun h => by rw [List.mem_singleton.mp h]; exact hlo)) dL_lightIn_19
  · rcases tc_lightIn σ p0 with ht | ht | ⟨ht, hw9⟩ | ⟨ht, hw9⟩
    · exact absurd ht (exOf0 hex)
    · refine xw_c1 (i := 1) (ck := 20) hown htab hE.2 ⟨by decide, by decide⟩ (exOf1 ht) rfl ⟨rfl, by decide⟩ ck20 hce hcv hcl ?_
      refine lv_astore_n (lv' := [(3, .ref q9), (0, .ref (ad 0 0)), (1, .int p0), (2, .ref ou)]) hx hb dL_lightIn_12 rfl hl (by decide) rfl (fun ls hl => ?_)
      refine lv_iconst (v := 1) hx hb dL_lightIn_13 (by decide) ?_
      refine W.widen (k := 2) (n := 12) (Nat.le_of_ble_eq_true rfl) (Nat.le_of_ble_eq_true rfl) ?_
      exact W.iret (v := 1) hx hb hr (fun t ht9 hW => ⟨congrArg (fun z => Outcome.returned (some (Value.int z))) ht.symm, fun _ => ⟨by rw [ht9]; exact hz, fun q hq => by rw [ht9]; exact ho q hq⟩, fun q => absurd (ht.symm.trans q) (by decide)⟩) (fun z h => (hL z h).elim) dL_lightIn_14
    · refine xw_c2 (i := 3) (j := 1) (ck := 15) (cj := 20) hown htab hE.2 ⟨by decide, by decide⟩ ⟨by decide, by decide⟩ (by decide) (exOf2 ht) rfl ⟨rfl, by decide⟩ ⟨rfl, by decide⟩ ck15 ck20 hce hcv hcl ?_
      refine lv_astore_n (lv' := [(3, .ref q9), (0, .ref (ad 0 0)), (1, .int p0), (2, .ref ou)]) hx hb dL_lightIn_15 rfl hl (by decide) rfl (fun ls hl => ?_)
      refine lv_iconst (v := 2) hx hb dL_lightIn_16 (by decide) ?_
      refine W.widen (k := 2) (n := 12) (Nat.le_of_ble_eq_true rfl) (Nat.le_of_ble_eq_true rfl) ?_
      exact W.iret (v := 2) hx hb hr (fun t ht9 hW => ⟨congrArg (fun z => Outcome.returned (some (Value.int z))) ht.symm, fun _ => ⟨by rw [ht9]; exact hz, fun q hq => by rw [ht9]; exact ho q hq⟩, fun q => absurd (ht.symm.trans q) (by decide)⟩) (fun z h => (hL z h).elim) dL_lightIn_17
    · exact absurd rfl hw9
set_option maxHeartbeats 4000000 in
set_option maxRecDepth 100000 in
theorem qL_customerOf (la : Launch) (hst : la.stackTraces = false) (g : EG) (lo : Nat) (ad : Nat → Nat → Nat) (σ : Sg) (u : Nat → Int64) (τ : Sg) (hI : INV σ) (hA : XA lo ad σ) (ou : Nat) (hlo : lo ≤ ou) (hO : ¬ xown ad σ ou) (p0 : Int32) : Met la yL_customerOf wsL_customerOf ({ frames := 8, cells := 2, slots := 12, locals := 144 } : Room) (va_Pc [.ref (ad 0 0), .int p0, .ref ou] (fun U => XR g ad σ u τ U.heap ∧ OUTL g ou U.heap ∧ EL g lo U)) (QW ou (t_cell σ 24 p0) (fun H0 Hm => Hm = H0) (ANL g ou ((σ 24 (ti p0)).toInt64))) 2 12 (fun q => lo ≤ q) := by
  refine met_ofWH (cc := cL_customerOf) (maxL := 4) (ret := (some .int)) (by decide) rfl ?_
  intro p e s m args below meth c s₁ B hml hv
  obtain ⟨rfl, hX, ⟨f9, hof⟩, hE⟩ := hv
  have hK := hE.1.1.1
  have hx := B.exec
  have hb := B.bytes
  have hr := B.returns
  have hts := atoms_spec (ws := wsL_customerOf) B.pre
  have hown : s.vm.findClass RL = some m.cls := findClass_of_methodNamed B.named
  have hlocks := B.notSynchronized
  have htab : c.exceptionTable.toList = [⟨0, 9, 12, 20⟩, ⟨0, 9, 15, 15⟩] := vx_table (x := yL_customerOf) B (hts (.codeWith yL_customerOf cL_customerOf 4 (some .int) [(0, 9, 12, 20), (0, 9, 15, 15)]) List.mem_cons_self)
  have ck15 := hts (.classLink RL 15 (en 3)) (by decide +kernel)
  have ck20 := hts (.classLink RL 20 (en 1)) (by decide +kernel)
  have hl := lv_entry ([.ref (ad 0 0), .int p0, .ref ou]) (n := 4) (Nat.le_of_ble_eq_true rfl)
  rw [lg_entry_eq]
  generalize (lg_sl ([.ref (ad 0 0), .int p0, .ref ou]) ++ List.replicate (4 - (lg_sl ([.ref (ad 0 0), .int p0, .ref ou])).length) Slot.unset).toArray = ls at hl ⊢
  have hl : lv_has ls 4 [(0, .ref (ad 0 0)), (1, .int p0), (2, .ref ou)] := hl
  refine lv_aload_n hx hb dL_customerOf_0 rfl (lv_at hl 2 rfl) ?_
  refine lv_iconst (v := 0) hx hb dL_customerOf_1 (by decide) ?_
  refine lv_aload_n hx hb dL_customerOf_2 rfl (lv_at hl 0 rfl) ?_
  refine lv_iload_n hx hb dL_customerOf_3 rfl (lv_at hl 1 rfl) ?_
  refine xw_v (n := 1) (As := [.int p0]) (rest := [.int 0, .ref ou]) (G := (fun Hm => Hm = s.heap)) ⟨hx, hb, hml, hown, hts⟩ hE hX (qX6_customerOf la hst g lo ad σ u τ hI hA p0) (fun U hU hEU => ⟨by rw [hU]; exact hX, hEU.1.1⟩) (fun U a g9 mk q => ⟨q.1, q.2.calling g9 mk a⟩) (fun a st oc t h0 hq => ⟨hq.1, hq.2.1, hq.2.2.trans h0⟩) gL_customerOf_X6_customerOf rfl rfl rfl (by decide +kernel) ⟨Nat.le_of_ble_eq_true rfl, Nat.le_of_ble_eq_true rfl⟩ rfl hl.1 rfl (Nat.le_of_ble_eq_true rfl) dL_customerOf_4 ⟨Nat.le_of_ble_eq_true rfl, Nat.le_of_ble_eq_true rfl⟩ (fun H1 L hex hG hL => ?_) (fun H1 L q9 ce hex hz ho hce hcv hcl hL => ?_)
  · have ht : (t_cell σ 24 p0) = 0 := exOfz (by decide) (tc_customerOf σ p0) hex
    replace hG : H1 = s.heap := hG
    subst hG
    refine lv_i2l hx hb dL_customerOf_7 rfl ?_
    refine sp_last hx hb hK 2 hof rfl (vin_dec (by decide +kernel)) dL_customerOf_8 (fun H2 j h1 h2 h3 => ?_)
    rw [show (0 : Int32).toNatClampNeg = 0 from ti_0] at h1
    refine lv_goto (tgt := 18) hx hb dL_customerOf_9 (by decide) ?_
    refine lv_iconst (v := 0) hx hb dL_customerOf_18 (by decide) ?_
    refine W.widen (k := 2) (n := 12) (Nat.le_of_ble_eq_true rfl) (Nat.le_of_ble_eq_true rfl) ?_
    exact W.iret (v := 0) hx hb hr (fun t ht9 hW => ⟨congrArg (fun z => Outcome.returned (some (Value.int z))) ht.symm, fun q => absurd ht q, fun _ => ⟨_, rfl, by rw [ht9]; exact h2, fun q hq => by rw [ht9]; exact h3 q hq, by rw [ht9]; exact ⟨_, h1, pk_uLs⟩⟩⟩) (fun z hz => (List.mem_append.mp hz).elim (fun h => (hL z h).elim) (fun h => by rw [List.mem_singleton.mp h]; exact hlo)) dL_customerOf_19
  · rcases tc_customerOf σ p0 with ht | ht | ⟨ht, hw9⟩ | ⟨ht, hw9⟩
    · exact absurd ht (exOf0 hex)
    · refine xw_c1 (i := 1) (ck := 20) hown htab hE.2 ⟨by decide, by decide⟩ (exOf1 ht) rfl ⟨rfl, by decide⟩ ck20 hce hcv hcl ?_
      refine lv_astore_n (lv' := [(3, .ref q9), (0, .ref (ad 0 0)), (1, .int p0), (2, .ref ou)]) hx hb dL_customerOf_12 rfl hl (by decide) rfl (fun ls hl => ?_)
      refine lv_iconst (v := 1) hx hb dL_customerOf_13 (by decide) ?_
      refine W.widen (k := 2) (n := 12) (Nat.le_of_ble_eq_true rfl) (Nat.le_of_ble_eq_true rfl) ?_
      exact W.iret (v := 1) hx hb hr (fun t ht9 hW => ⟨congrArg (fun z => Outcome.returned (some (Value.int z))) ht.symm, fun _ => ⟨by rw [ht9]; exact hz, fun q hq => by rw [ht9]; exact ho q hq⟩, fun q => absurd (ht.symm.trans q) (by decide)⟩) (fun z h => (hL z h).elim) dL_customerOf_14
    · refine xw_c2 (i := 3) (j := 1) (ck := 15) (cj := 20) hown htab hE.2 ⟨by decide, by decide⟩ ⟨by decide, by decide⟩ (by decide) (exOf2 ht) rfl ⟨rfl, by decide⟩ ⟨rfl, by decide⟩ ck15 ck20 hce hcv hcl ?_
      refine lv_astore_n (lv' := [(3, .ref q9), (0, .ref (ad 0 0)), (1, .int p0), (2, .ref ou)]) hx hb dL_customerOf_15 rfl hl (by decide) rfl (fun ls hl => ?_)
      refine lv_iconst (v := 2) hx hb dL_customerOf_16 (by decide) ?_
      refine W.widen (k := 2) (n := 12) (Nat.le_of_ble_eq_true rfl) (Nat.le_of_ble_eq_true rfl) ?_
      exact W.iret (v := 2) hx hb hr (fun t ht9 hW => ⟨congrArg (fun z => Outcome.returned (some (Value.int z))) ht.symm, fun _ => ⟨by rw [ht9]; exact hz, fun q hq => by rw [ht9]; exact ho q hq⟩, fun q => absurd (ht.symm.trans q) (by decide)⟩) (fun z h => (hL z h).elim) dL_customerOf_17
    · exact absurd rfl hw9
set_option maxHeartbeats 4000000 in
set_option maxRecDepth 100000 in
theorem qL_lotsOf (la : Launch) (hst : la.stackTraces = false) (g : EG) (lo : Nat) (ad : Nat → Nat → Nat) (σ : Sg) (u : Nat → Int64) (τ : Sg) (hI : INV σ) (hA : XA lo ad σ) (ou : Nat) (hlo : lo ≤ ou) (hO : ¬ xown ad σ ou) (p0 : Int32) : Met la yL_lotsOf wsL_lotsOf ({ frames := 8, cells := 1, slots := 6, locals := 149 } : Room) (va_Pc [.ref (ad 0 0), .int p0, .ref ou] (fun U => XR g ad σ u τ U.heap ∧ OUTL g ou U.heap ∧ EL g lo U)) (QW ou (tO σ p0) (fun H0 Hm => Hm = H0) (ANL g ou ((c_lots σ p0 (nL σ)).toInt64))) 1 6 (fun q => lo ≤ q) := by
  refine met_ofWH (cc := cL_lotsOf) (maxL := 4) (ret := (some .int)) (by decide) rfl ?_
  intro p e s m args below meth c s₁ B hml hv
  obtain ⟨rfl, hX, ⟨f9, hof⟩, hE⟩ := hv
  have hK := hE.1.1.1
  have hx := B.exec
  have hb := B.bytes
  have hr := B.returns
  have hts := atoms_spec (ws := wsL_lotsOf) B.pre
  have hown : s.vm.findClass RL = some m.cls := findClass_of_methodNamed B.named
  have hlocks := B.notSynchronized
  have htab : c.exceptionTable.toList = [⟨0, 9, 12, 20⟩] := vx_table (x := yL_lotsOf) B (hts (.codeWith yL_lotsOf cL_lotsOf 4 (some .int) [(0, 9, 12, 20)]) List.mem_cons_self)
  have ck20 := hts (.classLink RL 20 (en 1)) (by decide +kernel)
  have hl := lv_entry ([.ref (ad 0 0), .int p0, .ref ou]) (n := 4) (Nat.le_of_ble_eq_true rfl)
  rw [lg_entry_eq]
  generalize (lg_sl ([.ref (ad 0 0), .int p0, .ref ou]) ++ List.replicate (4 - (lg_sl ([.ref (ad 0 0), .int p0, .ref ou])).length) Slot.unset).toArray = ls at hl ⊢
  have hl : lv_has ls 4 [(0, .ref (ad 0 0)), (1, .int p0), (2, .ref ou)] := hl
  refine lv_aload_n hx hb dL_lotsOf_0 rfl (lv_at hl 2 rfl) ?_
  refine lv_iconst (v := 0) hx hb dL_lotsOf_1 (by decide) ?_
  refine lv_aload_n hx hb dL_lotsOf_2 rfl (lv_at hl 0 rfl) ?_
  refine lv_iload_n hx hb dL_lotsOf_3 rfl (lv_at hl 1 rfl) ?_
  refine xw_v (n := 1) (As := [.int p0]) (rest := [.int 0, .ref ou]) (G := (fun Hm => Hm = s.heap)) ⟨hx, hb, hml, hown, hts⟩ hE hX (qX6_lotsOf la hst g lo ad σ u τ hI hA p0) (fun U hU hEU => ⟨by rw [hU]; exact hX, hEU.1.1⟩) (fun U a g9 mk q => ⟨q.1, q.2.calling g9 mk a⟩) (fun a st oc t h0 hq => ⟨hq.1, hq.2.1, hq.2.2.trans h0⟩) gL_lotsOf_X6_lotsOf rfl rfl rfl (by decide +kernel) ⟨Nat.le_of_ble_eq_true rfl, Nat.le_of_ble_eq_true rfl⟩ rfl hl.1 rfl (Nat.le_of_ble_eq_true rfl) dL_lotsOf_4 ⟨Nat.le_of_ble_eq_true rfl, Nat.le_of_ble_eq_true rfl⟩ (fun H1 L hex hG hL => ?_) (fun H1 L q9 ce hex hz ho hce hcv hcl hL => ?_)
  · have ht : (tO σ p0) = 0 := exOfz (by decide) (tc_lotsOf σ p0) hex
    replace hG : H1 = s.heap := hG
    subst hG
    refine lv_i2l hx hb dL_lotsOf_7 rfl ?_
    refine sp_last hx hb hK 2 hof rfl (vin_dec (by decide +kernel)) dL_lotsOf_8 (fun H2 j h1 h2 h3 => ?_)
    rw [show (0 : Int32).toNatClampNeg = 0 from ti_0] at h1
    refine lv_goto (tgt := 15) hx hb dL_lotsOf_9 (by decide) ?_
    refine lv_iconst (v := 0) hx hb dL_lotsOf_15 (by decide) ?_
    refine W.widen (k := 1) (n := 6) (Nat.le_of_ble_eq_true rfl) (Nat.le_of_ble_eq_true rfl) ?_
    exact W.iret (v := 0) hx hb hr (fun t ht9 hW => ⟨congrArg (fun z => Outcome.returned (some (Value.int z))) ht.symm, fun q => absurd ht q, fun _ => ⟨_, rfl, by rw [ht9]; exact h2, fun q hq => by rw [ht9]; exact h3 q hq, by rw [ht9]; exact ⟨_, h1, pk_uLs⟩⟩⟩) (fun z hz => (List.mem_append.mp hz).elim (fun h => (hL z h).elim) (fun h => by rw [List.mem_singleton.mp h]; exact hlo)) dL_lotsOf_16
  · rcases tc_lotsOf σ p0 with ht | ht | ⟨ht, hw9⟩ | ⟨ht, hw9⟩
    · exact absurd ht (exOf0 hex)
    · refine xw_c1 (i := 1) (ck := 20) hown htab hE.2 ⟨by decide, by decide⟩ (exOf1 ht) rfl ⟨rfl, by decide⟩ ck20 hce hcv hcl ?_
      refine lv_astore_n (lv' := [(3, .ref q9), (0, .ref (ad 0 0)), (1, .int p0), (2, .ref ou)]) hx hb dL_lotsOf_12 rfl hl (by decide) rfl (fun ls hl => ?_)
      refine lv_iconst (v := 1) hx hb dL_lotsOf_13 (by decide) ?_
      refine W.widen (k := 1) (n := 6) (Nat.le_of_ble_eq_true rfl) (Nat.le_of_ble_eq_true rfl) ?_
      exact W.iret (v := 1) hx hb hr (fun t ht9 hW => ⟨congrArg (fun z => Outcome.returned (some (Value.int z))) ht.symm, fun _ => ⟨by rw [ht9]; exact hz, fun q hq => by rw [ht9]; exact ho q hq⟩, fun q => absurd (ht.symm.trans q) (by decide)⟩) (fun z h => (hL z h).elim) dL_lotsOf_14
    · exact absurd rfl hw9
    · exact absurd rfl hw9
set_option maxHeartbeats 4000000 in
set_option maxRecDepth 100000 in
theorem qL_passedOf (la : Launch) (hst : la.stackTraces = false) (g : EG) (lo : Nat) (ad : Nat → Nat → Nat) (σ : Sg) (u : Nat → Int64) (τ : Sg) (hI : INV σ) (hA : XA lo ad σ) (ou : Nat) (hlo : lo ≤ ou) (hO : ¬ xown ad σ ou) (p0 : Int32) : Met la yL_passedOf wsL_passedOf ({ frames := 8, cells := 1, slots := 6, locals := 149 } : Room) (va_Pc [.ref (ad 0 0), .int p0, .ref ou] (fun U => XR g ad σ u τ U.heap ∧ OUTL g ou U.heap ∧ EL g lo U)) (QW ou (tO σ p0) (fun H0 Hm => Hm = H0) (ANL g ou ((c_pass σ p0 (nL σ)).toInt64))) 1 6 (fun q => lo ≤ q) := by
  refine met_ofWH (cc := cL_passedOf) (maxL := 4) (ret := (some .int)) (by decide) rfl ?_
  intro p e s m args below meth c s₁ B hml hv
  obtain ⟨rfl, hX, ⟨f9, hof⟩, hE⟩ := hv
  have hK := hE.1.1.1
  have hx := B.exec
  have hb := B.bytes
  have hr := B.returns
  have hts := atoms_spec (ws := wsL_passedOf) B.pre
  have hown : s.vm.findClass RL = some m.cls := findClass_of_methodNamed B.named
  have hlocks := B.notSynchronized
  have htab : c.exceptionTable.toList = [⟨0, 9, 12, 20⟩] := vx_table (x := yL_passedOf) B (hts (.codeWith yL_passedOf cL_passedOf 4 (some .int) [(0, 9, 12, 20)]) List.mem_cons_self)
  have ck20 := hts (.classLink RL 20 (en 1)) (by decide +kernel)
  have hl := lv_entry ([.ref (ad 0 0), .int p0, .ref ou]) (n := 4) (Nat.le_of_ble_eq_true rfl)
  rw [lg_entry_eq]
  generalize (lg_sl ([.ref (ad 0 0), .int p0, .ref ou]) ++ List.replicate (4 - (lg_sl ([.ref (ad 0 0), .int p0, .ref ou])).length) Slot.unset).toArray = ls at hl ⊢
  have hl : lv_has ls 4 [(0, .ref (ad 0 0)), (1, .int p0), (2, .ref ou)] := hl
  refine lv_aload_n hx hb dL_passedOf_0 rfl (lv_at hl 2 rfl) ?_
  refine lv_iconst (v := 0) hx hb dL_passedOf_1 (by decide) ?_
  refine lv_aload_n hx hb dL_passedOf_2 rfl (lv_at hl 0 rfl) ?_
  refine lv_iload_n hx hb dL_passedOf_3 rfl (lv_at hl 1 rfl) ?_
  refine xw_v (n := 1) (As := [.int p0]) (rest := [.int 0, .ref ou]) (G := (fun Hm => Hm = s.heap)) ⟨hx, hb, hml, hown, hts⟩ hE hX (qX6_passedOf la hst g lo ad σ u τ hI hA p0) (fun U hU hEU => ⟨by rw [hU]; exact hX, hEU.1.1⟩) (fun U a g9 mk q => ⟨q.1, q.2.calling g9 mk a⟩) (fun a st oc t h0 hq => ⟨hq.1, hq.2.1, hq.2.2.trans h0⟩) gL_passedOf_X6_passedOf rfl rfl rfl (by decide +kernel) ⟨Nat.le_of_ble_eq_true rfl, Nat.le_of_ble_eq_true rfl⟩ rfl hl.1 rfl (Nat.le_of_ble_eq_true rfl) dL_passedOf_4 ⟨Nat.le_of_ble_eq_true rfl, Nat.le_of_ble_eq_true rfl⟩ (fun H1 L hex hG hL => ?_) (fun H1 L q9 ce hex hz ho hce hcv hcl hL => ?_)
  · have ht : (tO σ p0) = 0 := exOfz (by decide) (tc_passedOf σ p0) hex
    replace hG : H1 = s.heap := hG
    subst hG
    refine lv_i2l hx hb dL_passedOf_7 rfl ?_
    refine sp_last hx hb hK 2 hof rfl (vin_dec (by decide +kernel)) dL_passedOf_8 (fun H2 j h1 h2 h3 => ?_)
    rw [show (0 : Int32).toNatClampNeg = 0 from ti_0] at h1
    refine lv_goto (tgt := 15) hx hb dL_passedOf_9 (by decide) ?_
    refine lv_iconst (v := 0) hx hb dL_passedOf_15 (by decide) ?_
    refine W.widen (k := 1) (n := 6) (Nat.le_of_ble_eq_true rfl) (Nat.le_of_ble_eq_true rfl) ?_
    exact W.iret (v := 0) hx hb hr (fun t ht9 hW => ⟨congrArg (fun z => Outcome.returned (some (Value.int z))) ht.symm, fun q => absurd ht q, fun _ => ⟨_, rfl, by rw [ht9]; exact h2, fun q hq => by rw [ht9]; exact h3 q hq, by rw [ht9]; exact ⟨_, h1, pk_uLs⟩⟩⟩) (fun z hz => (List.mem_append.mp hz).elim (fun h => (hL z h).elim) (fun h => by rw [List.mem_singleton.mp h]; exact hlo)) dL_passedOf_16
  · rcases tc_passedOf σ p0 with ht | ht | ⟨ht, hw9⟩ | ⟨ht, hw9⟩
    · exact absurd ht (exOf0 hex)
    · refine xw_c1 (i := 1) (ck := 20) hown htab hE.2 ⟨by decide, by decide⟩ (exOf1 ht) rfl ⟨rfl, by decide⟩ ck20 hce hcv hcl ?_
      refine lv_astore_n (lv' := [(3, .ref q9), (0, .ref (ad 0 0)), (1, .int p0), (2, .ref ou)]) hx hb dL_passedOf_12 rfl hl (by decide) rfl (fun ls hl => ?_)
      refine lv_iconst (v := 1) hx hb dL_passedOf_13 (by decide) ?_
      refine W.widen (k := 1) (n := 6) (Nat.le_of_ble_eq_true rfl) (Nat.le_of_ble_eq_true rfl) ?_
      exact W.iret (v := 1) hx hb hr (fun t ht9 hW => ⟨congrArg (fun z => Outcome.returned (some (Value.int z))) ht.symm, fun _ => ⟨by rw [ht9]; exact hz, fun q hq => by rw [ht9]; exact ho q hq⟩, fun q => absurd (ht.symm.trans q) (by decide)⟩) (fun z h => (hL z h).elim) dL_passedOf_14
    · exact absurd rfl hw9
    · exact absurd rfl hw9
set_option maxHeartbeats 4000000 in
set_option maxRecDepth 100000 in
theorem qL_spread (la : Launch) (hst : la.stackTraces = false) (g : EG) (lo : Nat) (ad : Nat → Nat → Nat) (σ : Sg) (u : Nat → Int64) (τ : Sg) (hI : INV σ) (hA : XA lo ad σ) (ou : Nat) (hlo : lo ≤ ou) (hO : ¬ xown ad σ ou) (p0 : Int32) : Met la yL_spread wsL_spread ({ frames := 8, cells := 1, slots := 6, locals := 149 } : Room) (va_Pc [.ref (ad 0 0), .int p0, .ref ou] (fun U => XR g ad σ u τ U.heap ∧ OUTL g ou U.heap ∧ EL g lo U)) (QW ou (tO σ p0) (fun H0 Hm => Hm = H0) (ANL g ou ((spO σ p0 (nL σ)).toInt64))) 1 6 (fun q => lo ≤ q) := by
  refine met_ofWH (cc := cL_spread) (maxL := 4) (ret := (some .int)) (by decide) rfl ?_
  intro p e s m args below meth c s₁ B hml hv
  obtain ⟨rfl, hX, ⟨f9, hof⟩, hE⟩ := hv
  have hK := hE.1.1.1
  have hx := B.exec
  have hb := B.bytes
  have hr := B.returns
  have hts := atoms_spec (ws := wsL_spread) B.pre
  have hown : s.vm.findClass RL = some m.cls := findClass_of_methodNamed B.named
  have hlocks := B.notSynchronized
  have htab : c.exceptionTable.toList = [⟨0, 9, 12, 20⟩] := vx_table (x := yL_spread) B (hts (.codeWith yL_spread cL_spread 4 (some .int) [(0, 9, 12, 20)]) List.mem_cons_self)
  have ck20 := hts (.classLink RL 20 (en 1)) (by decide +kernel)
  have hl := lv_entry ([.ref (ad 0 0), .int p0, .ref ou]) (n := 4) (Nat.le_of_ble_eq_true rfl)
  rw [lg_entry_eq]
  generalize (lg_sl ([.ref (ad 0 0), .int p0, .ref ou]) ++ List.replicate (4 - (lg_sl ([.ref (ad 0 0), .int p0, .ref ou])).length) Slot.unset).toArray = ls at hl ⊢
  have hl : lv_has ls 4 [(0, .ref (ad 0 0)), (1, .int p0), (2, .ref ou)] := hl
  refine lv_aload_n hx hb dL_spread_0 rfl (lv_at hl 2 rfl) ?_
  refine lv_iconst (v := 0) hx hb dL_spread_1 (by decide) ?_
  refine lv_aload_n hx hb dL_spread_2 rfl (lv_at hl 0 rfl) ?_
  refine lv_iload_n hx hb dL_spread_3 rfl (lv_at hl 1 rfl) ?_
  refine xw_v (n := 1) (As := [.int p0]) (rest := [.int 0, .ref ou]) (G := (fun Hm => Hm = s.heap)) ⟨hx, hb, hml, hown, hts⟩ hE hX (qX6_spread la hst g lo ad σ u τ hI hA p0) (fun U hU hEU => ⟨by rw [hU]; exact hX, hEU.1.1⟩) (fun U a g9 mk q => ⟨q.1, q.2.calling g9 mk a⟩) (fun a st oc t h0 hq => ⟨hq.1, hq.2.1, hq.2.2.trans h0⟩) gL_spread_X6_spread rfl rfl rfl (by decide +kernel) ⟨Nat.le_of_ble_eq_true rfl, Nat.le_of_ble_eq_true rfl⟩ rfl hl.1 rfl (Nat.le_of_ble_eq_true rfl) dL_spread_4 ⟨Nat.le_of_ble_eq_true rfl, Nat.le_of_ble_eq_true rfl⟩ (fun H1 L hex hG hL => ?_) (fun H1 L q9 ce hex hz ho hce hcv hcl hL => ?_)
  · have ht : (tO σ p0) = 0 := exOfz (by decide) (tc_spread σ p0) hex
    replace hG : H1 = s.heap := hG
    subst hG
    refine lv_i2l hx hb dL_spread_7 rfl ?_
    refine sp_last hx hb hK 2 hof rfl (vin_dec (by decide +kernel)) dL_spread_8 (fun H2 j h1 h2 h3 => ?_)
    rw [show (0 : Int32).toNatClampNeg = 0 from ti_0] at h1
    refine lv_goto (tgt := 15) hx hb dL_spread_9 (by decide) ?_
    refine lv_iconst (v := 0) hx hb dL_spread_15 (by decide) ?_
    refine W.widen (k := 1) (n := 6) (Nat.le_of_ble_eq_true rfl) (Nat.le_of_ble_eq_true rfl) ?_
    exact W.iret (v := 0) hx hb hr (fun t ht9 hW => ⟨congrArg (fun z => Outcome.returned (some (Value.int z))) ht.symm, fun q => absurd ht q, fun _ => ⟨_, rfl, by rw [ht9]; exact h2, fun q hq => by rw [ht9]; exact h3 q hq, by rw [ht9]; exact ⟨_, h1, pk_uLs⟩⟩⟩) (fun z hz => (List.mem_append.mp hz).elim (fun h => (hL z h).elim) (fun h => by rw [List.mem_singleton.mp h]; exact hlo)) dL_spread_16
  · rcases tc_spread σ p0 with ht | ht | ⟨ht, hw9⟩ | ⟨ht, hw9⟩
    · exact absurd ht (exOf0 hex)
    · refine xw_c1 (i := 1) (ck := 20) hown htab hE.2 ⟨by decide, by decide⟩ (exOf1 ht) rfl ⟨rfl, by decide⟩ ck20 hce hcv hcl ?_
      refine lv_astore_n (lv' := [(3, .ref q9), (0, .ref (ad 0 0)), (1, .int p0), (2, .ref ou)]) hx hb dL_spread_12 rfl hl (by decide) rfl (fun ls hl => ?_)
      refine lv_iconst (v := 1) hx hb dL_spread_13 (by decide) ?_
      refine W.widen (k := 1) (n := 6) (Nat.le_of_ble_eq_true rfl) (Nat.le_of_ble_eq_true rfl) ?_
      exact W.iret (v := 1) hx hb hr (fun t ht9 hW => ⟨congrArg (fun z => Outcome.returned (some (Value.int z))) ht.symm, fun _ => ⟨by rw [ht9]; exact hz, fun q hq => by rw [ht9]; exact ho q hq⟩, fun q => absurd (ht.symm.trans q) (by decide)⟩) (fun z h => (hL z h).elim) dL_spread_14
    · exact absurd rfl hw9
    · exact absurd rfl hw9
set_option maxHeartbeats 4000000 in
set_option maxRecDepth 100000 in
theorem qL_lateBy (la : Launch) (hst : la.stackTraces = false) (g : EG) (lo : Nat) (ad : Nat → Nat → Nat) (σ : Sg) (u : Nat → Int64) (τ : Sg) (hI : INV σ) (hA : XA lo ad σ) (ou : Nat) (hlo : lo ≤ ou) (hO : ¬ xown ad σ ou) (p0 : Int32) : Met la yL_lateBy wsL_lateBy ({ frames := 8, cells := 1, slots := 6, locals := 143 } : Room) (va_Pc [.ref (ad 0 0), .int p0, .ref ou] (fun U => XR g ad σ u τ U.heap ∧ OUTL g ou U.heap ∧ EL g lo U)) (QW ou (tO σ p0) (fun H0 Hm => Hm = H0) (ANL g ou ((f_late σ p0).toInt64))) 1 6 (fun q => lo ≤ q) := by
  refine met_ofWH (cc := cL_lateBy) (maxL := 4) (ret := (some .int)) (by decide) rfl ?_
  intro p e s m args below meth c s₁ B hml hv
  obtain ⟨rfl, hX, ⟨f9, hof⟩, hE⟩ := hv
  have hK := hE.1.1.1
  have hx := B.exec
  have hb := B.bytes
  have hr := B.returns
  have hts := atoms_spec (ws := wsL_lateBy) B.pre
  have hown : s.vm.findClass RL = some m.cls := findClass_of_methodNamed B.named
  have hlocks := B.notSynchronized
  have htab : c.exceptionTable.toList = [⟨0, 9, 12, 20⟩] := vx_table (x := yL_lateBy) B (hts (.codeWith yL_lateBy cL_lateBy 4 (some .int) [(0, 9, 12, 20)]) List.mem_cons_self)
  have ck20 := hts (.classLink RL 20 (en 1)) (by decide +kernel)
  have hl := lv_entry ([.ref (ad 0 0), .int p0, .ref ou]) (n := 4) (Nat.le_of_ble_eq_true rfl)
  rw [lg_entry_eq]
  generalize (lg_sl ([.ref (ad 0 0), .int p0, .ref ou]) ++ List.replicate (4 - (lg_sl ([.ref (ad 0 0), .int p0, .ref ou])).length) Slot.unset).toArray = ls at hl ⊢
  have hl : lv_has ls 4 [(0, .ref (ad 0 0)), (1, .int p0), (2, .ref ou)] := hl
  refine lv_aload_n hx hb dL_lateBy_0 rfl (lv_at hl 2 rfl) ?_
  refine lv_iconst (v := 0) hx hb dL_lateBy_1 (by decide) ?_
  refine lv_aload_n hx hb dL_lateBy_2 rfl (lv_at hl 0 rfl) ?_
  refine lv_iload_n hx hb dL_lateBy_3 rfl (lv_at hl 1 rfl) ?_
  refine xw_v (n := 1) (As := [.int p0]) (rest := [.int 0, .ref ou]) (G := (fun Hm => Hm = s.heap)) ⟨hx, hb, hml, hown, hts⟩ hE hX (qX6_lateBy la hst g lo ad σ u τ hI hA p0) (fun U hU hEU => ⟨by rw [hU]; exact hX, hEU.1.1⟩) (fun U a g9 mk q => ⟨q.1, q.2.calling g9 mk a⟩) (fun a st oc t h0 hq => ⟨hq.1, hq.2.1, hq.2.2.trans h0⟩) gL_lateBy_X6_lateBy rfl rfl rfl (by decide +kernel) ⟨Nat.le_of_ble_eq_true rfl, Nat.le_of_ble_eq_true rfl⟩ rfl hl.1 rfl (Nat.le_of_ble_eq_true rfl) dL_lateBy_4 ⟨Nat.le_of_ble_eq_true rfl, Nat.le_of_ble_eq_true rfl⟩ (fun H1 L hex hG hL => ?_) (fun H1 L q9 ce hex hz ho hce hcv hcl hL => ?_)
  · have ht : (tO σ p0) = 0 := exOfz (by decide) (tc_lateBy σ p0) hex
    replace hG : H1 = s.heap := hG
    subst hG
    refine lv_i2l hx hb dL_lateBy_7 rfl ?_
    refine sp_last hx hb hK 2 hof rfl (vin_dec (by decide +kernel)) dL_lateBy_8 (fun H2 j h1 h2 h3 => ?_)
    rw [show (0 : Int32).toNatClampNeg = 0 from ti_0] at h1
    refine lv_goto (tgt := 15) hx hb dL_lateBy_9 (by decide) ?_
    refine lv_iconst (v := 0) hx hb dL_lateBy_15 (by decide) ?_
    refine W.widen (k := 1) (n := 6) (Nat.le_of_ble_eq_true rfl) (Nat.le_of_ble_eq_true rfl) ?_
    exact W.iret (v := 0) hx hb hr (fun t ht9 hW => ⟨congrArg (fun z => Outcome.returned (some (Value.int z))) ht.symm, fun q => absurd ht q, fun _ => ⟨_, rfl, by rw [ht9]; exact h2, fun q hq => by rw [ht9]; exact h3 q hq, by rw [ht9]; exact ⟨_, h1, pk_uLs⟩⟩⟩) (fun z hz => (List.mem_append.mp hz).elim (fun h => (hL z h).elim) (fun h => by rw [List.mem_singleton.mp h]; exact hlo)) dL_lateBy_16
  · rcases tc_lateBy σ p0 with ht | ht | ⟨ht, hw9⟩ | ⟨ht, hw9⟩
    · exact absurd ht (exOf0 hex)
    · refine xw_c1 (i := 1) (ck := 20) hown htab hE.2 ⟨by decide, by decide⟩ (exOf1 ht) rfl ⟨rfl, by decide⟩ ck20 hce hcv hcl ?_
      refine lv_astore_n (lv' := [(3, .ref q9), (0, .ref (ad 0 0)), (1, .int p0), (2, .ref ou)]) hx hb dL_lateBy_12 rfl hl (by decide) rfl (fun ls hl => ?_)
      refine lv_iconst (v := 1) hx hb dL_lateBy_13 (by decide) ?_
      refine W.widen (k := 1) (n := 6) (Nat.le_of_ble_eq_true rfl) (Nat.le_of_ble_eq_true rfl) ?_
      exact W.iret (v := 1) hx hb hr (fun t ht9 hW => ⟨congrArg (fun z => Outcome.returned (some (Value.int z))) ht.symm, fun _ => ⟨by rw [ht9]; exact hz, fun q hq => by rw [ht9]; exact ho q hq⟩, fun q => absurd (ht.symm.trans q) (by decide)⟩) (fun z h => (hL z h).elim) dL_lateBy_14
    · exact absurd rfl hw9
    · exact absurd rfl hw9
set_option maxHeartbeats 4000000 in
set_option maxRecDepth 100000 in
theorem qL_due (la : Launch) (hst : la.stackTraces = false) (g : EG) (lo : Nat) (ad : Nat → Nat → Nat) (σ : Sg) (u : Nat → Int64) (τ : Sg) (hI : INV σ) (hA : XA lo ad σ) (ou : Nat) (hlo : lo ≤ ou) (hO : ¬ xown ad σ ou) (p0 : Int32) : Met la yL_due wsL_due ({ frames := 8, cells := 1, slots := 6, locals := 143 } : Room) (va_Pc [.ref (ad 0 0), .int p0, .ref ou] (fun U => XR g ad σ u τ U.heap ∧ OUTL g ou U.heap ∧ EL g lo U)) (QW ou (tO σ p0) (fun H0 Hm => Hm = H0) (ANL g ou ((f_worth σ p0).toInt64))) 1 6 (fun q => lo ≤ q) := by
  refine met_ofWH (cc := cL_due) (maxL := 4) (ret := (some .int)) (by decide) rfl ?_
  intro p e s m args below meth c s₁ B hml hv
  obtain ⟨rfl, hX, ⟨f9, hof⟩, hE⟩ := hv
  have hK := hE.1.1.1
  have hx := B.exec
  have hb := B.bytes
  have hr := B.returns
  have hts := atoms_spec (ws := wsL_due) B.pre
  have hown : s.vm.findClass RL = some m.cls := findClass_of_methodNamed B.named
  have hlocks := B.notSynchronized
  have htab : c.exceptionTable.toList = [⟨0, 9, 12, 20⟩] := vx_table (x := yL_due) B (hts (.codeWith yL_due cL_due 4 (some .int) [(0, 9, 12, 20)]) List.mem_cons_self)
  have ck20 := hts (.classLink RL 20 (en 1)) (by decide +kernel)
  have hl := lv_entry ([.ref (ad 0 0), .int p0, .ref ou]) (n := 4) (Nat.le_of_ble_eq_true rfl)
  rw [lg_entry_eq]
  generalize (lg_sl ([.ref (ad 0 0), .int p0, .ref ou]) ++ List.replicate (4 - (lg_sl ([.ref (ad 0 0), .int p0, .ref ou])).length) Slot.unset).toArray = ls at hl ⊢
  have hl : lv_has ls 4 [(0, .ref (ad 0 0)), (1, .int p0), (2, .ref ou)] := hl
  refine lv_aload_n hx hb dL_due_0 rfl (lv_at hl 2 rfl) ?_
  refine lv_iconst (v := 0) hx hb dL_due_1 (by decide) ?_
  refine lv_aload_n hx hb dL_due_2 rfl (lv_at hl 0 rfl) ?_
  refine lv_iload_n hx hb dL_due_3 rfl (lv_at hl 1 rfl) ?_
  refine xw_v (n := 1) (As := [.int p0]) (rest := [.int 0, .ref ou]) (G := (fun Hm => Hm = s.heap)) ⟨hx, hb, hml, hown, hts⟩ hE hX (qX6_due la hst g lo ad σ u τ hI hA p0) (fun U hU hEU => ⟨by rw [hU]; exact hX, hEU.1.1⟩) (fun U a g9 mk q => ⟨q.1, q.2.calling g9 mk a⟩) (fun a st oc t h0 hq => ⟨hq.1, hq.2.1, hq.2.2.trans h0⟩) gL_due_X6_due rfl rfl rfl (by decide +kernel) ⟨Nat.le_of_ble_eq_true rfl, Nat.le_of_ble_eq_true rfl⟩ rfl hl.1 rfl (Nat.le_of_ble_eq_true rfl) dL_due_4 ⟨Nat.le_of_ble_eq_true rfl, Nat.le_of_ble_eq_true rfl⟩ (fun H1 L hex hG hL => ?_) (fun H1 L q9 ce hex hz ho hce hcv hcl hL => ?_)
  · have ht : (tO σ p0) = 0 := exOfz (by decide) (tc_due σ p0) hex
    replace hG : H1 = s.heap := hG
    subst hG
    refine lv_i2l hx hb dL_due_7 rfl ?_
    refine sp_last hx hb hK 2 hof rfl (vin_dec (by decide +kernel)) dL_due_8 (fun H2 j h1 h2 h3 => ?_)
    rw [show (0 : Int32).toNatClampNeg = 0 from ti_0] at h1
    refine lv_goto (tgt := 15) hx hb dL_due_9 (by decide) ?_
    refine lv_iconst (v := 0) hx hb dL_due_15 (by decide) ?_
    refine W.widen (k := 1) (n := 6) (Nat.le_of_ble_eq_true rfl) (Nat.le_of_ble_eq_true rfl) ?_
    exact W.iret (v := 0) hx hb hr (fun t ht9 hW => ⟨congrArg (fun z => Outcome.returned (some (Value.int z))) ht.symm, fun q => absurd ht q, fun _ => ⟨_, rfl, by rw [ht9]; exact h2, fun q hq => by rw [ht9]; exact h3 q hq, by rw [ht9]; exact ⟨_, h1, pk_uLs⟩⟩⟩) (fun z hz => (List.mem_append.mp hz).elim (fun h => (hL z h).elim) (fun h => by rw [List.mem_singleton.mp h]; exact hlo)) dL_due_16
  · rcases tc_due σ p0 with ht | ht | ⟨ht, hw9⟩ | ⟨ht, hw9⟩
    · exact absurd ht (exOf0 hex)
    · refine xw_c1 (i := 1) (ck := 20) hown htab hE.2 ⟨by decide, by decide⟩ (exOf1 ht) rfl ⟨rfl, by decide⟩ ck20 hce hcv hcl ?_
      refine lv_astore_n (lv' := [(3, .ref q9), (0, .ref (ad 0 0)), (1, .int p0), (2, .ref ou)]) hx hb dL_due_12 rfl hl (by decide) rfl (fun ls hl => ?_)
      refine lv_iconst (v := 1) hx hb dL_due_13 (by decide) ?_
      refine W.widen (k := 1) (n := 6) (Nat.le_of_ble_eq_true rfl) (Nat.le_of_ble_eq_true rfl) ?_
      exact W.iret (v := 1) hx hb hr (fun t ht9 hW => ⟨congrArg (fun z => Outcome.returned (some (Value.int z))) ht.symm, fun _ => ⟨by rw [ht9]; exact hz, fun q hq => by rw [ht9]; exact ho q hq⟩, fun q => absurd (ht.symm.trans q) (by decide)⟩) (fun z h => (hL z h).elim) dL_due_14
    · exact absurd rfl hw9
    · exact absurd rfl hw9
set_option maxHeartbeats 4000000 in
set_option maxRecDepth 100000 in
theorem qL_dues (la : Launch) (hst : la.stackTraces = false) (g : EG) (lo : Nat) (ad : Nat → Nat → Nat) (σ : Sg) (u : Nat → Int64) (τ : Sg) (hI : INV σ) (hA : XA lo ad σ) (ou : Nat) (hlo : lo ≤ ou) (hO : ¬ xown ad σ ou) (p0 : Int32) : Met la yL_dues wsL_dues ({ frames := 9, cells := 1, slots := 6, locals := 169 } : Room) (va_Pc [.ref (ad 0 0), .int p0, .ref ou] (fun U => XR g ad σ u τ U.heap ∧ OUTL g ou U.heap ∧ EL g lo U)) (QW ou (t_dues p0) (fun H0 Hm => Hm = H0) (ANL g ou (f_dues σ p0 (nO σ)))) 1 6 (fun q => lo ≤ q) := by
  refine met_ofWH (cc := cL_dues) (maxL := 4) (ret := (some .int)) (by decide) rfl ?_
  intro p e s m args below meth c s₁ B hml hv
  obtain ⟨rfl, hX, ⟨f9, hof⟩, hE⟩ := hv
  have hK := hE.1.1.1
  have hx := B.exec
  have hb := B.bytes
  have hr := B.returns
  have hts := atoms_spec (ws := wsL_dues) B.pre
  have hown : s.vm.findClass RL = some m.cls := findClass_of_methodNamed B.named
  have hlocks := B.notSynchronized
  have htab : c.exceptionTable.toList = [⟨0, 8, 11, 13⟩] := vx_table (x := yL_dues) B (hts (.codeWith yL_dues cL_dues 4 (some .int) [(0, 8, 11, 13)]) List.mem_cons_self)
  have ck13 := hts (.classLink RL 13 (en 2)) (by decide +kernel)
  have hl := lv_entry ([.ref (ad 0 0), .int p0, .ref ou]) (n := 4) (Nat.le_of_ble_eq_true rfl)
  rw [lg_entry_eq]
  generalize (lg_sl ([.ref (ad 0 0), .int p0, .ref ou]) ++ List.replicate (4 - (lg_sl ([.ref (ad 0 0), .int p0, .ref ou])).length) Slot.unset).toArray = ls at hl ⊢
  have hl : lv_has ls 4 [(0, .ref (ad 0 0)), (1, .int p0), (2, .ref ou)] := hl
  refine lv_aload_n hx hb dL_dues_0 rfl (lv_at hl 2 rfl) ?_
  refine lv_iconst (v := 0) hx hb dL_dues_1 (by decide) ?_
  refine lv_aload_n hx hb dL_dues_2 rfl (lv_at hl 0 rfl) ?_
  refine lv_iload_n hx hb dL_dues_3 rfl (lv_at hl 1 rfl) ?_
  refine xw_v (n := 1) (As := [.int p0]) (rest := [.int 0, .ref ou]) (G := (fun Hm => Hm = s.heap)) ⟨hx, hb, hml, hown, hts⟩ hE hX (qX6_dues la hst g lo ad σ u τ hI hA p0) (fun U hU hEU => ⟨by rw [hU]; exact hX, hEU.1.1⟩) (fun U a g9 mk q => ⟨q.1, q.2.calling g9 mk a⟩) (fun a st oc t h0 hq => ⟨hq.1, hq.2.1, hq.2.2.trans h0⟩) gL_dues_X6_dues rfl rfl rfl (by decide +kernel) ⟨Nat.le_of_ble_eq_true rfl, Nat.le_of_ble_eq_true rfl⟩ rfl hl.1 rfl (Nat.le_of_ble_eq_true rfl) dL_dues_4 ⟨Nat.le_of_ble_eq_true rfl, Nat.le_of_ble_eq_true rfl⟩ (fun H1 L hex hG hL => ?_) (fun H1 L q9 ce hex hz ho hce hcv hcl hL => ?_)
  · have ht : (t_dues p0) = 0 := exOfz (by decide) (tc_dues σ p0) hex
    replace hG : H1 = s.heap := hG
    subst hG
    refine sp_last hx hb hK 2 hof rfl (vin_dec (by decide +kernel)) dL_dues_7 (fun H2 j h1 h2 h3 => ?_)
    rw [show (0 : Int32).toNatClampNeg = 0 from ti_0] at h1
    refine lv_goto (tgt := 14) hx hb dL_dues_8 (by decide) ?_
    refine lv_iconst (v := 0) hx hb dL_dues_14 (by decide) ?_
    refine W.widen (k := 1) (n := 6) (Nat.le_of_ble_eq_true rfl) (Nat.le_of_ble_eq_true rfl) ?_
    exact W.iret (v := 0) hx hb hr (fun t ht9 hW => ⟨congrArg (fun z => Outcome.returned (some (Value.int z))) ht.symm, fun q => absurd ht q, fun _ => ⟨_, rfl, by rw [ht9]; exact h2, fun q hq => by rw [ht9]; exact h3 q hq, by rw [ht9]; exact ⟨_, h1, pk_uLs⟩⟩⟩) (fun z hz => (List.mem_append.mp hz).elim (fun h => (hL z h).elim) (fun h => by rw [List.mem_singleton.mp h]; exact hlo)) dL_dues_15
  · rcases tc_dues σ p0 with ht | ht | ⟨ht, hw9⟩ | ⟨ht, hw9⟩
    · exact absurd ht (exOf0 hex)
    · refine xw_c1 (i := 2) (ck := 13) hown htab hE.2 ⟨by decide, by decide⟩ (exOf1 ht) rfl ⟨rfl, by decide⟩ ck13 hce hcv hcl ?_
      refine lv_astore_n (lv' := [(3, .ref q9), (0, .ref (ad 0 0)), (1, .int p0), (2, .ref ou)]) hx hb dL_dues_11 rfl hl (by decide) rfl (fun ls hl => ?_)
      refine lv_iconst (v := 1) hx hb dL_dues_12 (by decide) ?_
      refine W.widen (k := 1) (n := 6) (Nat.le_of_ble_eq_true rfl) (Nat.le_of_ble_eq_true rfl) ?_
      exact W.iret (v := 1) hx hb hr (fun t ht9 hW => ⟨congrArg (fun z => Outcome.returned (some (Value.int z))) ht.symm, fun _ => ⟨by rw [ht9]; exact hz, fun q hq => by rw [ht9]; exact ho q hq⟩, fun q => absurd (ht.symm.trans q) (by decide)⟩) (fun z h => (hL z h).elim) dL_dues_13
    · exact absurd rfl hw9
    · exact absurd rfl hw9
set_option maxHeartbeats 4000000 in
set_option maxRecDepth 100000 in
theorem qL_used (la : Launch) (hst : la.stackTraces = false) (g : EG) (lo : Nat) (ad : Nat → Nat → Nat) (σ : Sg) (u : Nat → Int64) (τ : Sg) (hI : INV σ) (hA : XA lo ad σ) (ou : Nat) (hlo : lo ≤ ou) (hO : ¬ xown ad σ ou) (p0 : Int32) : Met la yL_used wsL_used ({ frames := 9, cells := 1, slots := 6, locals := 163 } : Room) (va_Pc [.ref (ad 0 0), .int p0, .ref ou] (fun U => XR g ad σ u τ U.heap ∧ OUTL g ou U.heap ∧ EL g lo U)) (QW ou (tD p0) (fun H0 Hm => Hm = H0) (ANL g ou (u (ti p0)))) 1 6 (fun q => lo ≤ q) := by
  refine met_ofWH (cc := cL_used) (maxL := 4) (ret := (some .int)) (by decide) rfl ?_
  intro p e s m args below meth c s₁ B hml hv
  obtain ⟨rfl, hX, ⟨f9, hof⟩, hE⟩ := hv
  have hK := hE.1.1.1
  have hx := B.exec
  have hb := B.bytes
  have hr := B.returns
  have hts := atoms_spec (ws := wsL_used) B.pre
  have hown : s.vm.findClass RL = some m.cls := findClass_of_methodNamed B.named
  have hlocks := B.notSynchronized
  have htab : c.exceptionTable.toList = [⟨0, 8, 11, 13⟩] := vx_table (x := yL_used) B (hts (.codeWith yL_used cL_used 4 (some .int) [(0, 8, 11, 13)]) List.mem_cons_self)
  have ck13 := hts (.classLink RL 13 (en 2)) (by decide +kernel)
  have hl := lv_entry ([.ref (ad 0 0), .int p0, .ref ou]) (n := 4) (Nat.le_of_ble_eq_true rfl)
  rw [lg_entry_eq]
  generalize (lg_sl ([.ref (ad 0 0), .int p0, .ref ou]) ++ List.replicate (4 - (lg_sl ([.ref (ad 0 0), .int p0, .ref ou])).length) Slot.unset).toArray = ls at hl ⊢
  have hl : lv_has ls 4 [(0, .ref (ad 0 0)), (1, .int p0), (2, .ref ou)] := hl
  refine lv_aload_n hx hb dL_used_0 rfl (lv_at hl 2 rfl) ?_
  refine lv_iconst (v := 0) hx hb dL_used_1 (by decide) ?_
  refine lv_aload_n hx hb dL_used_2 rfl (lv_at hl 0 rfl) ?_
  refine lv_iload_n hx hb dL_used_3 rfl (lv_at hl 1 rfl) ?_
  refine xw_v (n := 1) (As := [.int p0]) (rest := [.int 0, .ref ou]) (G := (fun Hm => Hm = s.heap)) ⟨hx, hb, hml, hown, hts⟩ hE hX (qX6_used la hst g lo ad σ u τ hI hA p0) (fun U hU hEU => ⟨by rw [hU]; exact hX, hEU.1.1⟩) (fun U a g9 mk q => ⟨q.1, q.2.calling g9 mk a⟩) (fun a st oc t h0 hq => ⟨hq.1, hq.2.1, hq.2.2.trans h0⟩) gL_used_X6_used rfl rfl rfl (by decide +kernel) ⟨Nat.le_of_ble_eq_true rfl, Nat.le_of_ble_eq_true rfl⟩ rfl hl.1 rfl (Nat.le_of_ble_eq_true rfl) dL_used_4 ⟨Nat.le_of_ble_eq_true rfl, Nat.le_of_ble_eq_true rfl⟩ (fun H1 L hex hG hL => ?_) (fun H1 L q9 ce hex hz ho hce hcv hcl hL => ?_)
  · have ht : (tD p0) = 0 := exOfz (by decide) (tc_used σ p0) hex
    replace hG : H1 = s.heap := hG
    subst hG
    refine sp_last hx hb hK 2 hof rfl (vin_dec (by decide +kernel)) dL_used_7 (fun H2 j h1 h2 h3 => ?_)
    rw [show (0 : Int32).toNatClampNeg = 0 from ti_0] at h1
    refine lv_goto (tgt := 14) hx hb dL_used_8 (by decide) ?_
    refine lv_iconst (v := 0) hx hb dL_used_14 (by decide) ?_
    refine W.widen (k := 1) (n := 6) (Nat.le_of_ble_eq_true rfl) (Nat.le_of_ble_eq_true rfl) ?_
    exact W.iret (v := 0) hx hb hr (fun t ht9 hW => ⟨congrArg (fun z => Outcome.returned (some (Value.int z))) ht.symm, fun q => absurd ht q, fun _ => ⟨_, rfl, by rw [ht9]; exact h2, fun q hq => by rw [ht9]; exact h3 q hq, by rw [ht9]; exact ⟨_, h1, pk_uLs⟩⟩⟩) (fun z hz => (List.mem_append.mp hz).elim (fun h => (hL z h).elim) (fun h => by rw [List.mem_singleton.mp h]; exact hlo)) dL_used_15
  · rcases tc_used σ p0 with ht | ht | ⟨ht, hw9⟩ | ⟨ht, hw9⟩
    · exact absurd ht (exOf0 hex)
    · refine xw_c1 (i := 2) (ck := 13) hown htab hE.2 ⟨by decide, by decide⟩ (exOf1 ht) rfl ⟨rfl, by decide⟩ ck13 hce hcv hcl ?_
      refine lv_astore_n (lv' := [(3, .ref q9), (0, .ref (ad 0 0)), (1, .int p0), (2, .ref ou)]) hx hb dL_used_11 rfl hl (by decide) rfl (fun ls hl => ?_)
      refine lv_iconst (v := 1) hx hb dL_used_12 (by decide) ?_
      refine W.widen (k := 1) (n := 6) (Nat.le_of_ble_eq_true rfl) (Nat.le_of_ble_eq_true rfl) ?_
      exact W.iret (v := 1) hx hb hr (fun t ht9 hW => ⟨congrArg (fun z => Outcome.returned (some (Value.int z))) ht.symm, fun _ => ⟨by rw [ht9]; exact hz, fun q hq => by rw [ht9]; exact ho q hq⟩, fun q => absurd (ht.symm.trans q) (by decide)⟩) (fun z h => (hL z h).elim) dL_used_13
    · exact absurd rfl hw9
    · exact absurd rfl hw9
set_option maxHeartbeats 4000000 in
set_option maxRecDepth 100000 in
theorem qL_passedShare (la : Launch) (hst : la.stackTraces = false) (g : EG) (lo : Nat) (ad : Nat → Nat → Nat) (σ : Sg) (u : Nat → Int64) (τ : Sg) (hI : INV σ) (hA : XA lo ad σ) (ou : Nat) (hlo : lo ≤ ou) (hO : ¬ xown ad σ ou) : Met la yL_passedShare wsL_passedShare ({ frames := 7, cells := 1, slots := 6, locals := 122 } : Room) (va_Pc [.ref (ad 0 0), .ref ou] (fun U => XR g ad σ u τ U.heap ∧ OUTD g ou U.heap ∧ EL g lo U)) (QW ou (t_share σ) (fun H0 Hm => Hm = H0) (AND g ou (FP.f2d (f_share σ)))) 1 6 (fun q => lo ≤ q) := by
  refine met_ofWH (cc := cL_passedShare) (maxL := 3) (ret := (some .int)) (by decide) rfl ?_
  intro p e s m args below meth c s₁ B hml hv
  obtain ⟨rfl, hX, ⟨f9, hof⟩, hE⟩ := hv
  have hK := hE.1.1.1
  have hx := B.exec
  have hb := B.bytes
  have hr := B.returns
  have hts := atoms_spec (ws := wsL_passedShare) B.pre
  have hown : s.vm.findClass RL = some m.cls := findClass_of_methodNamed B.named
  have hlocks := B.notSynchronized
  have htab : c.exceptionTable.toList = [⟨0, 8, 11, 151⟩] := vx_table (x := yL_passedShare) B (hts (.codeWith yL_passedShare cL_passedShare 3 (some .int) [(0, 8, 11, 151)]) List.mem_cons_self)
  have ck151 := hts (.classLink RL 151 (en 6)) (by decide +kernel)
  have hl := lv_entry ([.ref (ad 0 0), .ref ou]) (n := 3) (Nat.le_of_ble_eq_true rfl)
  rw [lg_entry_eq]
  generalize (lg_sl ([.ref (ad 0 0), .ref ou]) ++ List.replicate (3 - (lg_sl ([.ref (ad 0 0), .ref ou])).length) Slot.unset).toArray = ls at hl ⊢
  have hl : lv_has ls 3 [(0, .ref (ad 0 0)), (1, .ref ou)] := hl
  refine lv_aload_n hx hb dL_passedShare_0 rfl (lv_at hl 1 rfl) ?_
  refine lv_iconst (v := 0) hx hb dL_passedShare_1 (by decide) ?_
  refine lv_aload_n hx hb dL_passedShare_2 rfl (lv_at hl 0 rfl) ?_
  refine xw_v (n := 0) (As := []) (rest := [.int 0, .ref ou]) (G := (fun Hm => Hm = s.heap)) ⟨hx, hb, hml, hown, hts⟩ hE hX (qX6_passedShare la hst g lo ad σ u τ hI hA ) (fun U hU hEU => ⟨by rw [hU]; exact hX, hEU.1.1⟩) (fun U a g9 mk q => ⟨q.1, q.2.calling g9 mk a⟩) (fun a st oc t h0 hq => ⟨hq.1, hq.2.1, hq.2.2.trans h0⟩) gL_passedShare_X6_passedShare rfl rfl rfl (by decide +kernel) ⟨Nat.le_of_ble_eq_true rfl, Nat.le_of_ble_eq_true rfl⟩ rfl hl.1 rfl (Nat.le_of_ble_eq_true rfl) dL_passedShare_3 ⟨Nat.le_of_ble_eq_true rfl, Nat.le_of_ble_eq_true rfl⟩ (fun H1 L hex hG hL => ?_) (fun H1 L q9 ce hex hz ho hce hcv hcl hL => ?_)
  · have ht : (t_share σ) = 0 := exOfz (by decide) (tc_passedShare σ) hex
    replace hG : H1 = s.heap := hG
    subst hG
    refine lv_f2d hx hb dL_passedShare_6 (share_d hI (share_ne ht)) ?_
    refine sp_dast hx hb hK 7 hof rfl (vin_dec (by decide +kernel)) dL_passedShare_7 (fun H2 j h1 h2 h3 => ?_)
    rw [show (0 : Int32).toNatClampNeg = 0 from ti_0] at h1
    refine lv_goto (tgt := 14) hx hb dL_passedShare_8 (by decide) ?_
    refine lv_iconst (v := 0) hx hb dL_passedShare_14 (by decide) ?_
    refine W.widen (k := 1) (n := 6) (Nat.le_of_ble_eq_true rfl) (Nat.le_of_ble_eq_true rfl) ?_
    exact W.iret (v := 0) hx hb hr (fun t ht9 hW => ⟨congrArg (fun z => Outcome.returned (some (Value.int z))) ht.symm, fun q => absurd ht q, fun _ => ⟨_, rfl, by rw [ht9]; exact h2, fun q hq => by rw [ht9]; exact h3 q hq, by rw [ht9]; exact ⟨_, h1, vf_us9⟩⟩⟩) (fun z hz => (List.mem_append.mp hz).elim (fun h => (hL z h).elim) (fun h => by rw [List.mem_singleton.mp h]; exact hlo)) dL_passedShare_15
  · rcases tc_passedShare σ with ht | ht | ⟨ht, hw9⟩ | ⟨ht, hw9⟩
    · exact absurd ht (exOf0 hex)
    · refine xw_c1 (i := 6) (ck := 151) hown htab hE.2 ⟨by decide, by decide⟩ (exOf1 ht) rfl ⟨rfl, by decide⟩ ck151 hce hcv hcl ?_
      refine lv_astore_n (lv' := [(2, .ref q9), (0, .ref (ad 0 0)), (1, .ref ou)]) hx hb dL_passedShare_11 rfl hl (by decide) rfl (fun ls hl => ?_)
      refine lv_iconst (v := 1) hx hb dL_passedShare_12 (by decide) ?_
      refine W.widen (k := 1) (n := 6) (Nat.le_of_ble_eq_true rfl) (Nat.le_of_ble_eq_true rfl) ?_
      exact W.iret (v := 1) hx hb hr (fun t ht9 hW => ⟨congrArg (fun z => Outcome.returned (some (Value.int z))) ht.symm, fun _ => ⟨by rw [ht9]; exact hz, fun q hq => by rw [ht9]; exact ho q hq⟩, fun q => absurd (ht.symm.trans q) (by decide)⟩) (fun z h => (hL z h).elim) dL_passedShare_13
    · exact absurd rfl hw9
    · exact absurd rfl hw9
set_option maxHeartbeats 4000000 in
set_option maxRecDepth 100000 in
theorem qL_meanOff (la : Launch) (hst : la.stackTraces = false) (g : EG) (lo : Nat) (ad : Nat → Nat → Nat) (σ : Sg) (u : Nat → Int64) (τ : Sg) (hI : INV σ) (hA : XA lo ad σ) (ou : Nat) (hlo : lo ≤ ou) (hO : ¬ xown ad σ ou) : Met la yL_meanOff wsL_meanOff ({ frames := 7, cells := 1, slots := 6, locals := 126 } : Room) (va_Pc [.ref (ad 0 0), .ref ou] (fun U => XR g ad σ u τ U.heap ∧ OUTD g ou U.heap ∧ EL g lo U)) (QW ou (t_mean σ) (fun H0 Hm => Hm = H0) (AND g ou (f_mean σ))) 1 6 (fun q => lo ≤ q) := by
  refine met_ofWH (cc := cL_meanOff) (maxL := 3) (ret := (some .int)) (by decide) rfl ?_
  intro p e s m args below meth c s₁ B hml hv
  obtain ⟨rfl, hX, ⟨f9, hof⟩, hE⟩ := hv
  have hK := hE.1.1.1
  have hx := B.exec
  have hb := B.bytes
  have hr := B.returns
  have hts := atoms_spec (ws := wsL_meanOff) B.pre
  have hown : s.vm.findClass RL = some m.cls := findClass_of_methodNamed B.named
  have hlocks := B.notSynchronized
  have htab : c.exceptionTable.toList = [⟨0, 7, 10, 151⟩] := vx_table (x := yL_meanOff) B (hts (.codeWith yL_meanOff cL_meanOff 3 (some .int) [(0, 7, 10, 151)]) List.mem_cons_self)
  have ck151 := hts (.classLink RL 151 (en 6)) (by decide +kernel)
  have hl := lv_entry ([.ref (ad 0 0), .ref ou]) (n := 3) (Nat.le_of_ble_eq_true rfl)
  rw [lg_entry_eq]
  generalize (lg_sl ([.ref (ad 0 0), .ref ou]) ++ List.replicate (3 - (lg_sl ([.ref (ad 0 0), .ref ou])).length) Slot.unset).toArray = ls at hl ⊢
  have hl : lv_has ls 3 [(0, .ref (ad 0 0)), (1, .ref ou)] := hl
  refine lv_aload_n hx hb dL_meanOff_0 rfl (lv_at hl 1 rfl) ?_
  refine lv_iconst (v := 0) hx hb dL_meanOff_1 (by decide) ?_
  refine lv_aload_n hx hb dL_meanOff_2 rfl (lv_at hl 0 rfl) ?_
  refine xw_v (n := 0) (As := []) (rest := [.int 0, .ref ou]) (G := (fun Hm => Hm = s.heap)) ⟨hx, hb, hml, hown, hts⟩ hE hX (qX6_meanOff la hst g lo ad σ u τ hI hA ) (fun U hU hEU => ⟨by rw [hU]; exact hX, hEU.1.1⟩) (fun U a g9 mk q => ⟨q.1, q.2.calling g9 mk a⟩) (fun a st oc t h0 hq => ⟨hq.1, hq.2.1, hq.2.2.trans h0⟩) gL_meanOff_X6_meanOff rfl rfl rfl (by decide +kernel) ⟨Nat.le_of_ble_eq_true rfl, Nat.le_of_ble_eq_true rfl⟩ rfl hl.1 rfl (Nat.le_of_ble_eq_true rfl) dL_meanOff_3 ⟨Nat.le_of_ble_eq_true rfl, Nat.le_of_ble_eq_true rfl⟩ (fun H1 L hex hG hL => ?_) (fun H1 L q9 ce hex hz ho hce hcv hcl hL => ?_)
  · have ht : (t_mean σ) = 0 := exOfz (by decide) (tc_meanOff σ) hex
    replace hG : H1 = s.heap := hG
    subst hG
    refine sp_dast hx hb hK 7 hof rfl (vin_dec (by decide +kernel)) dL_meanOff_6 (fun H2 j h1 h2 h3 => ?_)
    rw [show (0 : Int32).toNatClampNeg = 0 from ti_0] at h1
    refine lv_goto (tgt := 13) hx hb dL_meanOff_7 (by decide) ?_
    refine lv_iconst (v := 0) hx hb dL_meanOff_13 (by decide) ?_
    refine W.widen (k := 1) (n := 6) (Nat.le_of_ble_eq_true rfl) (Nat.le_of_ble_eq_true rfl) ?_
    exact W.iret (v := 0) hx hb hr (fun t ht9 hW => ⟨congrArg (fun z => Outcome.returned (some (Value.int z))) ht.symm, fun q => absurd ht q, fun _ => ⟨_, rfl, by rw [ht9]; exact h2, fun q hq => by rw [ht9]; exact h3 q hq, by rw [ht9]; exact ⟨_, h1, vf_us9⟩⟩⟩) (fun z hz => (List.mem_append.mp hz).elim (fun h => (hL z h).elim) (fun h => by rw [List.mem_singleton.mp h]; exact hlo)) dL_meanOff_14
  · rcases tc_meanOff σ with ht | ht | ⟨ht, hw9⟩ | ⟨ht, hw9⟩
    · exact absurd ht (exOf0 hex)
    · refine xw_c1 (i := 6) (ck := 151) hown htab hE.2 ⟨by decide, by decide⟩ (exOf1 ht) rfl ⟨rfl, by decide⟩ ck151 hce hcv hcl ?_
      refine lv_astore_n (lv' := [(2, .ref q9), (0, .ref (ad 0 0)), (1, .ref ou)]) hx hb dL_meanOff_10 rfl hl (by decide) rfl (fun ls hl => ?_)
      refine lv_iconst (v := 1) hx hb dL_meanOff_11 (by decide) ?_
      refine W.widen (k := 1) (n := 6) (Nat.le_of_ble_eq_true rfl) (Nat.le_of_ble_eq_true rfl) ?_
      exact W.iret (v := 1) hx hb hr (fun t ht9 hW => ⟨congrArg (fun z => Outcome.returned (some (Value.int z))) ht.symm, fun _ => ⟨by rw [ht9]; exact hz, fun q hq => by rw [ht9]; exact ho q hq⟩, fun q => absurd (ht.symm.trans q) (by decide)⟩) (fun z h => (hL z h).elim) dL_meanOff_12
    · exact absurd rfl hw9
    · exact absurd rfl hw9
