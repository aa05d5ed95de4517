/-! ===== the plan filled ===== -/
theorem cont_t7 (cy : Nat → ClassId) (ad : Nat → Nat → Nat) {σ τ τ' : Sg} {u : Nat → Int64} {K i : Nat} (h : ∀ k, k < 4 → τ' k = τ k) (hne : ¬ (K = 7 ∧ i = 0)) (hi : i < xcnt σ K) : xcont cy ad σ u τ' K i = xcont cy ad σ u τ K i := by
  unfold xcont
  split <;> (try rfl)
  · exact absurd ⟨rfl, Nat.lt_one_iff.mp hi⟩ hne
  · rw [h 0 (by decide)]
  · rw [h 1 (by decide)]
  · rw [h 2 (by decide)]
  · rw [h 3 (by decide)]
theorem cont_t8 (cy : Nat → ClassId) (ad : Nat → Nat → Nat) {σ τ τ' : Sg} {u : Nat → Int64} {K i : Nat} (k0 : Nat) (hk : k0 < 4) (h : ∀ k, k ≠ k0 → τ' k = τ k) (hne : ¬ (K = 8 + k0 ∧ i = 0)) (hi : i < xcnt σ K) : xcont cy ad σ u τ' K i = xcont cy ad σ u τ K i := by
  unfold xcont
  split <;> (try rfl)
  · rw [h 4 (by omega), h 5 (by omega), h 6 (by omega)]
  · rw [h 0 (fun e => hne ⟨by omega, Nat.lt_one_iff.mp hi⟩)]
  · rw [h 1 (fun e => hne ⟨by omega, Nat.lt_one_iff.mp hi⟩)]
  · rw [h 2 (fun e => hne ⟨by omega, Nat.lt_one_iff.mp hi⟩)]
  · rw [h 3 (fun e => hne ⟨by omega, Nat.lt_one_iff.mp hi⟩)]
def tBeg (σ τ : Sg) (v : Nat) : Sg := up (up (up τ 4 0 0) 5 0 (σ 23 v)) 6 0 (σ 24 v)
def tAdd (σ τ : Sg) (i n : Nat) : Sg := up (up (up (up (up τ 0 n (nI i)) 1 n (f_lightOf σ (nI i))) 2 n (f_cust σ (nI i))) 3 n (f_hours σ (nI i))) 4 0 (nI (n + 1))
def FIL (σ : Sg) (v : Int32) (τ : Sg) (j : Nat) : Prop := (τ 4 0 = nI (cntN σ v (min j (nL σ))) ∧ τ 5 0 = σ 23 (ti v) ∧ τ 6 0 = σ 24 (ti v)) ∧ ∀ a, a < j → a < nL σ → σ 20 a = v → τ 0 (cntN σ v a) = nI a ∧ τ 1 (cntN σ v a) = f_lightOf σ (nI a) ∧ τ 2 (cntN σ v a) = f_cust σ (nI a) ∧ τ 3 (cntN σ v a) = f_hours σ (nI a)
theorem FIL_beg {σ : Sg} (τ : Sg) {v : Nat} (hv : v < 1000) : FIL σ (nI v) (tBeg σ τ v) 0 := by
  refine ⟨⟨?_, ?_, ?_⟩, fun a h => absurd h (Nat.not_lt_zero _)⟩
  · rw [Nat.zero_min]; rfl
  · rw [ti_nI (by omega)]; rfl
  · rw [ti_nI (by omega)]; rfl
theorem tAdd_r (σ τ : Sg) (i n : Nat) : tAdd σ τ i n 0 = upd (τ 0) n (nI i) ∧ tAdd σ τ i n 1 = upd (τ 1) n (f_lightOf σ (nI i)) ∧ tAdd σ τ i n 2 = upd (τ 2) n (f_cust σ (nI i)) ∧ tAdd σ τ i n 3 = upd (τ 3) n (f_hours σ (nI i)) := by
  simp [tAdd, up]
theorem FIL_add {σ τ : Sg} {v : Int32} {j : Nat} (hj : j < nL σ) (hc : σ 20 j = v) (hF : FIL σ v τ j) : FIL σ v (tAdd σ τ j (cntN σ v j)) (j + 1) := by
  refine ⟨⟨?_, hF.1.2.1, hF.1.2.2⟩, fun a h1 h2 h3 => ?_⟩
  · rw [Nat.min_eq_left (by omega), cntN_y hc]; rfl
  · by_cases e : a = j
    · subst e
      obtain ⟨t0, t1, t2, t3⟩ := tAdd_r σ τ a (cntN σ v a)
      rw [t0, t1, t2, t3]
      exact ⟨pk_us, pk_us, pk_us, pk_us⟩
    · have hlt : cntN σ v a < cntN σ v j := cntN_lt h3 (by omega)
      obtain ⟨f0, f1, f2, f3⟩ := hF.2 a (by omega) h2 h3
      have q : ¬ cntN σ v a = cntN σ v j := by omega
      obtain ⟨t0, t1, t2, t3⟩ := tAdd_r σ τ j (cntN σ v j)
      rw [t0, t1, t2, t3]
      exact ⟨(pk_un q).trans f0, (pk_un q).trans f1, (pk_un q).trans f2, (pk_un q).trans f3⟩
theorem FIL_null {σ τ : Sg} {v : Int32} {j : Nat} (hj : ¬ j < nL σ) (hF : FIL σ v τ j) : FIL σ v τ (j + 1) := by
  refine ⟨⟨?_, hF.1.2.1, hF.1.2.2⟩, fun a h1 h2 h3 => hF.2 a (by omega) h2 h3⟩
  rw [hF.1.1, Nat.min_eq_right (by omega), Nat.min_eq_right (by omega)]
theorem FIL_skip {σ τ : Sg} {v : Int32} {j : Nat} (hc : ¬ σ 20 j = v) (hF : FIL σ v τ j) : FIL σ v τ (j + 1) := by
  by_cases hj : j < nL σ
  · refine ⟨⟨?_, hF.1.2.1, hF.1.2.2⟩, fun a h1 h2 h3 => hF.2 a (by
      rcases Nat.lt_or_ge a j with q | q
      · exact q
      · exact absurd (show σ 20 j = v from (show a = j by omega) ▸ h3) hc) h2 h3⟩
    rw [hF.1.1, Nat.min_eq_left (by omega), Nat.min_eq_left (by omega), cntN_n hc]
  · exact FIL_null hj hF
theorem FIL_n {σ τ : Sg} {v : Int32} {j : Nat} (hj : j < nL σ) (hF : FIL σ v τ j) : τ 4 0 = nI (cntN σ v j) := by
  rw [hF.1.1, Nat.min_eq_left (by omega)]
theorem cnt6 {σ : Sg} (hI : INV σ) {v : Int32} (kv : vp_in v (nV σ)) {j : Nat} (hj : j < nL σ) (hc : σ 20 j = v) : cntN σ v j < 6 := by
  have h1 := nP_le hI kv
  have h2 := (nP_cnt hI v).1
  have h3 := cntN_lt (σ := σ) hc hj
  omega
theorem FIL_PL {σ τ : Sg} (hI : INV σ) {v : Int32} (kv : vp_in v (nV σ)) (hF : FIL σ v τ 24) : PL τ (nP σ v) (ltP σ v) (cuP σ v) (hrP σ v) := by
  have hb := hI.l.1
  refine ⟨⟨nP_le hI kv, ?_⟩, fun i hi => ?_⟩
  · rw [hF.1.1, Nat.min_eq_right hb, (nP_cnt hI v).1]
  · obtain ⟨j, h1, h2, h3, h4⟩ := bP_ex hI hi
    have F := hF.2 j (by omega) h1 h2
    rw [h3, ← h4] at F
    exact ⟨F.2.1, F.2.2.1, F.2.2.2.trans (hrP_eq hI hi).1, Nat.le_trans (hrP_eq hI hi).2 (by decide)⟩
theorem FIL_num {σ τ : Sg} (hI : INV σ) {v : Int32} (hF : FIL σ v τ 24) {i : Nat} (hi : i < nP σ v) : τ 0 i = bP σ v i := by
  have hb := hI.l.1
  obtain ⟨j, h1, h2, h3, h4⟩ := bP_ex hI hi
  have F := hF.2 j (by omega) h1 h2
  rw [h3, ← h4] at F
  exact F.1
theorem cls_lh {σ τ : Sg} (hI : INV σ) {v : Int32} (kv : vp_in v (nV σ)) (hF : FIL σ v τ 24) : nI (hsm (hrP σ v) (List.range (nP σ v))) + 3 * nI (fwF (ltP σ v) (cuP σ v) (nP σ v) (nP σ v) 0 (τ 5 0) (τ 6 0) 0 (nP σ v + 1)) = nI (bestP σ v).1 := by
  rw [hF.1.2.1, hF.1.2.2]
  show _ = nI (bsL (costP (ltP σ v) (cuP σ v) (hrP σ v) (σ 23 (ti v)) (σ 24 (ti v))) (ords (nP σ v) (nP σ v) 0)).1
  rw [least_cl _ _ _ (nP_le hI kv), show (3 : Int32) = nI 3 from rfl, pk_mul, nI_add]
theorem cls_la {σ τ : Sg} (hI : INV σ) {v : Int32} (kv : vp_in v (nV σ)) (hF : FIL σ v τ 24) : nI (laF (ltP σ v) (cuP σ v) (hrP σ v) (nP σ v) (nP σ v) 0 (τ 5 0) (τ 6 0) 0) = nI (bestP σ v).1 := by
  rw [hF.1.2.1, hF.1.2.2]
  show _ = nI (bsL (costP (ltP σ v) (cuP σ v) (hrP σ v) (σ 23 (ti v)) (σ 24 (ti v))) (ords (nP σ v) (nP σ v) 0)).1
  rw [least_la _ _ _ (nP_le hI kv) _ _ (hrP_le σ v)]
theorem best_lt {σ : Sg} (hI : INV σ) {v : Int32} (kv : vp_in v (nV σ)) (h0 : 0 < nP σ v) : (bestP σ v).2 < nP σ v := by
  obtain ⟨-, ⟨q, q1, -, q3⟩, -⟩ := bsL_spec (cstP σ v) (nP_le hI kv)
  have h1 := chkO_all (chk_ords (nP_le hI kv)) q q1
  show (bsL (cstP σ v) (ords (nP σ v) (nP σ v) 0)).2 < nP σ v
  rw [← q3]
  exact pF_lt h1.1 h1.2.1 0 h0
theorem cls_fo {σ τ : Sg} (hI : INV σ) {v : Int32} (kv : vp_in v (nV σ)) (hF : FIL σ v τ 24) (h0 : 0 < nP σ v) : τ 0 (bsL (costP (ltP σ v) (cuP σ v) (hrP σ v) (τ 5 0) (τ 6 0)) (ords (nP σ v) (nP σ v) 0)).2 = tkP σ v (bestP σ v).2 := by
  rw [hF.1.2.1, hF.1.2.2]
  exact (FIL_num hI hF (best_lt hI kv h0)).trans (if_neg (by omega)).symm
section XPROWS
variable {p : Program} {l : Launch} {e : Env} {R : Room} {s : State} {m : MethodId} {args : Array Value} {below : List Frame} {meth : Method} {c : Code} {H H0 : Heap} {locs : List Loc} {cells slots : Nat} {Q : State → Prop}
variable {cc : ByteArray} {pc : Nat} {ls : Array Slot} {rest st0 : List Value} {g : EG} {lo : Nat} {ad : Nat → Nat → Nat} {σ τ : Sg} {u : Nat → Int64} {Ts : List Cond}
theorem xc_mup {P : Heap → Prop} {own : String} {y : MethodName} {bytes : ByteArray} {maxL nL index n K i ci : Nat} {fs : List Value} {r : vw_C} {ret : Option FieldType} {ws ws' : List Cond} {rm : Room} {As v : List Value} {ov : Option Value} (S : CallFix p m c cc nL s args Ts own) (hK : KK g s) (hS : XS g lo ad σ u τ H0 H locs) (hi : i < xcnt σ K) (hcn : xcont g.2 ad σ u τ K i = .inr (ci, fs)) (hcl : vwCl[ci]? = some r)
    (hc : Met l y ws rm (va_Pc (.ref (ad K i) :: As) (fun U => XR g ad σ u τ U.heap ∧ KK g U)) (QM (.returned ov) P (xown ad σ)) 0 0 (fun q => lo ≤ q)) (hG : GoodIn Ts (wsV own index r.1 y ws)) (hw : ws = Cond.code y bytes maxL ret :: ws') (hrc : rm.cells = 0) (hrs : rm.slots = 0)
    (hd : y.cls = r.1 ∧ y.cls ≠ "java/lang/invoke/MethodHandle" ∧ y.cls ≠ "java/lang/invoke/VarHandle" ∧ (parseMethodDescriptor y.desc).map (fun d => d.parameters.length) = some n) (hR : rm.frames + 1 ≤ R.frames ∧ 8 + (maxL + 11) + rm.locals ≤ R.locals)
    (hn : As.length = n) (hsize : ls.size = nL) (hst : st0 = As.reverse ++ .ref (ad K i) :: rest) (hcat : (rest.map fun v => v.category).sum ≤ 8) (hdg : decode cc pc = .ok (.invokevirtual index, 3)) (hf : cells ≤ R.cells ∧ slots ≤ R.slots) (hov : ov.toList = v)
    (kk : ∀ (H1 : Heap) (locs1 : List Loc), P H1 → H1.size = H0.size → (∀ q, ¬ xown ad σ q → H1[q]? = H0[q]?) → (∀ z ∈ locs1, lo ≤ z.base) → W p l e R s m args below meth c H1 locs1 cells slots Q (F0 m (pc + 3) ls (v ++ rest))) : W p l e R s m args below meth c H locs cells slots Q (F0 m pc ls st0) := by
  subst hst
  exact cr_mu hov (va_runV (As := As) (rest := rest) S hc (cwV n S.2.2.2.2 hG hw hrc hrs hd hR) ⟨fun a U g9 mk q => by obtain ⟨q0, q1, q2⟩ := q; exact ⟨q0, q1, va_K.moved (u := U) (U := U.calling g9 mk a) (Vm.Alike.refl U.vm) q2⟩, va_recv hK (sp_one (hS.1 K i hi)) (q0 := 0) hcl (by rw [hcn]; rfl), fun U hU hW => ⟨rfl, by rw [hU]; exact hS.1, va_K.moved hW.alike hK⟩⟩ rfl hn hsize rfl (lv_room hcat) hdg hf) hS.2.2.2
    (fun H1 locs1 h1 h2 h3 h4 => kk H1 locs1 h1 (h2.trans hS.2.1) (fun q hq => (h3 q hq).trans (hS.2.2.1 q hq)) h4)
end XPROWS
def EVN (g : EG) (lo : Nat) (U : State) : Prop := EV g lo U ∧ va_Nw (.methodLinkNest RX2 92 yX6_isTooDark RX6) U ∧ va_Nw (.methodLinkNest RX2 96 yX6_isBarred RX6) U
theorem EVN.kn {g : EG} {lo : Nat} {U : State} (h : EVN g lo U) : KN g U := ⟨h.1.1, h.2⟩
theorem EVN.at {g : EG} {lo : Nat} {s U : State} (h : EVN g lo s) (hW : s.WarmedH U.vm) (hq : ∀ q, q < lo → U.heap[q]? = s.heap[q]?) : EVN g lo U := ⟨h.1.at hW hq, va_Nw.warmM hW h.2.1, va_Nw.warmM hW h.2.2⟩
theorem EVN.calling {g : EG} {lo : Nat} {U : State} (h : EVN g lo U) (g9 : JFrame) (mk : MethodId) (a : Array Value) : EVN g lo (U.calling g9 mk a) := h.at (s := U) (U := U.calling g9 mk a) (State.WarmedH.refl U) (fun _ _ => rfl)
