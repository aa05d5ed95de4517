/-! ===== the class's cells, written in place ===== -/
def XS (g : EG) (lo : Nat) (ad : Nat → Nat → Nat) (σ : Sg) (u : Nat → Int64) (τ : Sg) (H0 H : Heap) (locs : List Loc) : Prop :=
  XR g ad σ u τ H ∧ H.size = H0.size ∧ (∀ q, ¬ xown ad σ q → H[q]? = H0[q]?) ∧ ∀ z ∈ locs, lo ≤ z.base
theorem XS.start {g : EG} {lo : Nat} {ad : Nat → Nat → Nat} {σ τ : Sg} {u : Nat → Int64} {H : Heap} (h : XR g ad σ u τ H) : XS g lo ad σ u τ H H [] := ⟨h, rfl, fun _ _ => rfl, fun _ h => nomatch h⟩
theorem XS.upd {g : EG} {lo : Nat} {ad : Nat → Nat → Nat} {σ τ : Sg} {u : Nat → Int64} {H0 H H1 : Heap} {locs L1 : List Loc} (h : XS g lo ad σ u τ H0 H locs) (hA : XA lo ad σ) {K i : Nat} (hi : i < xcnt σ K) {σ' τ' : Sg} {u' : Nat → Int64} {c' : va_E} (hat : va_at g.1 vwCl (ad K i, c') H1) (hz : H1.size = H.size) (oq : ∀ q, q ≠ ad K i → H1[q]? = H[q]?) (hL : ∀ z ∈ L1, z ∈ locs ∨ z.base = ad K i) (hn : xcnt σ' = xcnt σ) (hc : c' = xcont g.2 ad σ' u' τ' K i) (ho : ∀ K' i', i' < xcnt σ K' → ¬ (K' = K ∧ i' = i) → xcont g.2 ad σ' u' τ' K' i' = xcont g.2 ad σ u τ K' i') : XS g lo ad σ' u' τ' H0 H1 L1 := by
  subst hc
  obtain ⟨h1, h2, h3, h4⟩ := h
  have hx : ∀ q, xown ad σ' q ↔ xown ad σ q := fun q => by unfold xown; rw [hn]
  refine ⟨fun K' i' hi' => ?_, hz.trans h2, fun q hq => ?_, fun z hz' => ?_⟩
  · rw [hn] at hi'
    by_cases e : K' = K ∧ i' = i
    · obtain ⟨rfl, rfl⟩ := e; exact hat
    · rw [ho K' i' hi' e]
      exact (h1 K' i' hi').kept (oq _ (fun q => e (hA.1 K' i' K i hi' hi q)))
  · rw [hx] at hq
    rw [oq q (fun e => hq ⟨K, i, hi, e⟩)]; exact h3 q hq
  · rcases hL z hz' with h | h
    · exact h4 z h
    · rw [h]; exact hA.2 K i hi
theorem XS.cg {g : EG} {lo : Nat} {ad : Nat → Nat → Nat} {σ σ' τ τ' : Sg} {u u' : Nat → Int64} {H0 H : Heap} {locs : List Loc} (h : XS g lo ad σ u τ H0 H locs) (e : σ = σ') (e2 : u = u') (e3 : τ = τ') : XS g lo ad σ' u' τ' H0 H locs := e ▸ e2 ▸ e3 ▸ h
theorem loc1 {locs : List Loc} {a j : Nat} : ∀ z ∈ locs ++ [⟨a, j⟩], z ∈ locs ∨ z.base = a := fun z h => (List.mem_append.mp h).elim Or.inl (fun h => Or.inr (by rw [List.mem_singleton.mp h]))
theorem loc2 {locs : List Loc} {a j k : Nat} : ∀ z ∈ (locs ++ [⟨a, j⟩]) ++ [⟨a, k⟩], z ∈ locs ∨ z.base = a := fun z h => (List.mem_append.mp h).elim (loc1 z) (fun h => Or.inr (by rw [List.mem_singleton.mp h]))
theorem up_off (σ : Sg) {k i : Nat} (x : Int32) {k' j : Nat} (h : ¬ (k' = k ∧ j = i)) : up σ k i x k' j = σ k' j := by
  unfold up
  by_cases e : k' = k
  · subst e; rw [if_pos rfl]; exact if_neg (fun q => h ⟨rfl, q⟩)
  · rw [if_neg e]
theorem up_on (σ : Sg) {k i : Nat} (x : Int32) : up σ k i x k i = x := by simp [up, upd]
section CONT
variable (cy : Nat → ClassId) (ad : Nat → Nat → Nat) {σ σ' τ τ' : Sg} {u u' : Nat → Int64} {K i a : Nat}
theorem cont_lot (h : ∀ k j, ¬ (17 ≤ k ∧ k ≤ 21 ∧ j = a) → σ' k j = σ k j) (hne : ¬ (K = 16 ∧ i = a)) : xcont cy ad σ' u τ K i = xcont cy ad σ u τ K i := by
  have hR : nR σ' = nR σ := congrArg ti (h 1 0 (by omega))
  have hO : nO σ' = nO σ := congrArg ti (h 2 0 (by omega))
  have hL : nL σ' = nL σ := congrArg ti (h 3 0 (by omega))
  have hV : nV σ' = nV σ := congrArg ti (h 4 0 (by omega))
  have hk : ∀ k, k < 17 → ∀ j, σ' k j = σ k j := fun k hk j => h k j (by omega)
  have hk2 : ∀ k, 21 < k → ∀ j, σ' k j = σ k j := fun k hk j => h k j (by omega)
  unfold xcont
  split <;> (try rfl)
  · rw [hk 1 (by decide), hk 2 (by decide), hk 3 (by decide), hk 4 (by decide)]
  · rw [hR]
  · rw [hO]
  · rw [hL]
  · rw [hV]
  · rw [funext (hk 7 (by decide))]
  · rw [hk 5 (by decide), hk 5 (by decide), hk 5 (by decide)]
  · rw [funext (hk 6 (by decide))]
  · rw [hk 9 (by decide), hk 10 (by decide), hk 11 (by decide), hk 12 (by decide), hk 13 (by decide)]
  · have hi : i ≠ a := fun e => hne ⟨rfl, e⟩
    rw [hk 14 (by decide), hk 15 (by decide), h 21 i (by omega), h 17 i (by omega), h 18 i (by omega), h 19 i (by omega), h 20 i (by omega)]
  · rw [hk 16 (by decide), hk 16 (by decide), hk 16 (by decide)]
  · rw [hk2 22 (by decide), hk2 23 (by decide), hk2 24 (by decide), hk2 25 (by decide), hk2 26 (by decide)]
theorem cont_vat (h : ∀ k j, ¬ (22 ≤ k ∧ k ≤ 26 ∧ j = a) → σ' k j = σ k j) (hne : ¬ (K = 18 ∧ i = a)) : xcont cy ad σ' u τ K i = xcont cy ad σ u τ K i := by
  have hk : ∀ k, k < 22 → ∀ j, σ' k j = σ k j := fun k hk j => h k j (by omega)
  unfold xcont
  split <;> (try rfl)
  · rw [hk 1 (by decide), hk 2 (by decide), hk 3 (by decide), hk 4 (by decide)]
  · rw [show nR σ' = nR σ from congrArg ti (hk 1 (by decide) 0)]
  · rw [show nO σ' = nO σ from congrArg ti (hk 2 (by decide) 0)]
  · rw [show nL σ' = nL σ from congrArg ti (hk 3 (by decide) 0)]
  · rw [show nV σ' = nV σ from congrArg ti (hk 4 (by decide) 0)]
  · rw [funext (hk 7 (by decide))]
  · rw [hk 5 (by decide), hk 5 (by decide), hk 5 (by decide)]
  · rw [funext (hk 6 (by decide))]
  · rw [hk 9 (by decide), hk 10 (by decide), hk 11 (by decide), hk 12 (by decide), hk 13 (by decide)]
  · rw [hk 14 (by decide), hk 15 (by decide), hk 21 (by decide), hk 17 (by decide), hk 18 (by decide), hk 19 (by decide), hk 20 (by decide)]
  · rw [hk 16 (by decide), hk 16 (by decide), hk 16 (by decide)]
  · have hi : i ≠ a := fun e => hne ⟨rfl, e⟩
    rw [h 22 i (by omega), h 23 i (by omega), h 24 i (by omega), h 25 i (by omega), h 26 i (by omega)]
theorem cont_shade (h : ∀ k j, ¬ (k = 16 ∧ (j = 3 * a ∨ j = 3 * a + 1 ∨ j = 3 * a + 2)) → σ' k j = σ k j) (hne : ¬ (K = 17 ∧ i = a)) : xcont cy ad σ' u τ K i = xcont cy ad σ u τ K i := by
  have hk : ∀ k, k ≠ 16 → ∀ j, σ' k j = σ k j := fun k hk j => h k j (by omega)
  unfold xcont
  split <;> (try rfl)
  · rw [hk 1 (by decide), hk 2 (by decide), hk 3 (by decide), hk 4 (by decide)]
  · rw [show nR σ' = nR σ from congrArg ti (hk 1 (by decide) 0)]
  · rw [show nO σ' = nO σ from congrArg ti (hk 2 (by decide) 0)]
  · rw [show nL σ' = nL σ from congrArg ti (hk 3 (by decide) 0)]
  · rw [show nV σ' = nV σ from congrArg ti (hk 4 (by decide) 0)]
  · rw [funext (hk 7 (by decide))]
  · rw [hk 5 (by decide), hk 5 (by decide), hk 5 (by decide)]
  · rw [funext (hk 6 (by decide))]
  · rw [hk 9 (by decide), hk 10 (by decide), hk 11 (by decide), hk 12 (by decide), hk 13 (by decide)]
  · rw [hk 14 (by decide), hk 15 (by decide), hk 21 (by decide), hk 17 (by decide), hk 18 (by decide), hk 19 (by decide), hk 20 (by decide)]
  · have hi : i ≠ a := fun e => hne ⟨rfl, e⟩
    rw [h 16 (3 * i) (by omega), h 16 (3 * i + 1) (by omega), h 16 (3 * i + 2) (by omega)]
  · rw [hk 22 (by decide), hk 23 (by decide), hk 24 (by decide), hk 25 (by decide), hk 26 (by decide)]
theorem cont_grams (h : ∀ k j, ¬ (k = 6 ∧ (j = 3 * a ∨ j = 3 * a + 1 ∨ j = 3 * a + 2)) → σ' k j = σ k j) (hne : ¬ (K = 14 ∧ i = a)) (f14 : K ≠ 14) : xcont cy ad σ' u τ K i = xcont cy ad σ u τ K i := by
  have hk : ∀ k, k ≠ 6 → ∀ j, σ' k j = σ k j := fun k hk j => h k j (by omega)
  unfold xcont
  split <;> (try rfl)
  · rw [hk 1 (by decide), hk 2 (by decide), hk 3 (by decide), hk 4 (by decide)]
  · rw [show nR σ' = nR σ from congrArg ti (hk 1 (by decide) 0)]
  · rw [show nO σ' = nO σ from congrArg ti (hk 2 (by decide) 0)]
  · rw [show nL σ' = nL σ from congrArg ti (hk 3 (by decide) 0)]
  · rw [show nV σ' = nV σ from congrArg ti (hk 4 (by decide) 0)]
  · rw [funext (hk 7 (by decide))]
  · rw [hk 5 (by decide), hk 5 (by decide), hk 5 (by decide)]
  · exact absurd rfl f14
  · rw [hk 9 (by decide), hk 10 (by decide), hk 11 (by decide), hk 12 (by decide), hk 13 (by decide)]
  · rw [hk 14 (by decide), hk 15 (by decide), hk 21 (by decide), hk 17 (by decide), hk 18 (by decide), hk 19 (by decide), hk 20 (by decide)]
  · rw [hk 16 (by decide), hk 16 (by decide), hk 16 (by decide)]
  · rw [hk 22 (by decide), hk 23 (by decide), hk 24 (by decide), hk 25 (by decide), hk 26 (by decide)]
theorem cont_stock (h : ∀ k j, k ≠ 7 → σ' k j = σ k j) (hne : ¬ (K = 5 ∧ i = 0)) (hi : i < xcnt σ K) : xcont cy ad σ' u τ K i = xcont cy ad σ u τ K i := by
  unfold xcont
  split <;> (try rfl)
  · rw [h 1 _ (by decide), h 2 _ (by decide), h 3 _ (by decide), h 4 _ (by decide)]
  · rw [show nR σ' = nR σ from congrArg ti (h 1 0 (by decide))]
  · rw [show nO σ' = nO σ from congrArg ti (h 2 0 (by decide))]
  · rw [show nL σ' = nL σ from congrArg ti (h 3 0 (by decide))]
  · rw [show nV σ' = nV σ from congrArg ti (h 4 0 (by decide))]
  · exact absurd ⟨rfl, Nat.lt_one_iff.mp hi⟩ hne
  · rw [h 5 _ (by decide), h 5 _ (by decide), h 5 _ (by decide)]
  · rw [funext (fun j => h 6 j (by decide))]
  · rw [h 9 _ (by decide), h 10 _ (by decide), h 11 _ (by decide), h 12 _ (by decide), h 13 _ (by decide)]
  · rw [h 14 _ (by decide), h 15 _ (by decide), h 21 _ (by decide), h 17 _ (by decide), h 18 _ (by decide), h 19 _ (by decide), h 20 _ (by decide)]
  · rw [h 16 _ (by decide), h 16 _ (by decide), h 16 _ (by decide)]
  · rw [h 22 _ (by decide), h 23 _ (by decide), h 24 _ (by decide), h 25 _ (by decide), h 26 _ (by decide)]
theorem cont_used (hne : ¬ (K = 6 ∧ i = 0)) (hi : i < xcnt σ K) : xcont cy ad σ u' τ K i = xcont cy ad σ u τ K i := by
  unfold xcont
  split <;> (try rfl)
  exact absurd ⟨rfl, Nat.lt_one_iff.mp hi⟩ hne
end CONT
theorem cont_t0 (cy : Nat → ClassId) (ad : Nat → Nat → Nat) {σ τ : Sg} {u : Nat → Int64} {K i : Nat} {x : Int32} : xcont cy ad (up σ 0 0 x) u τ K i = xcont cy ad σ u τ K i := by
  unfold xcont
  split <;> rfl
theorem XR.t0 {g : EG} {ad : Nat → Nat → Nat} {σ τ : Sg} {u : Nat → Int64} {H : Heap} (h : XR g ad σ u τ H) (x : Int32) : XR g ad (up σ 0 0 x) u τ H := fun K i hi => by
  rw [cont_t0]; exact h K i hi
def QXM (ex : Nat) (o : Outcome) (P : Heap → Prop) (own : Nat → Prop) : Array Value → State → Outcome → State → Prop := fun _ st oc t => ex = 0 ∧ oc = o ∧ P t.heap ∧ st.heap.size ≤ t.heap.size ∧ ∀ q, q < st.heap.size → ¬ own q → t.heap[q]? = st.heap[q]?
section XMROWS
variable {p : Program} {l : Launch} {e : Env} {R : Room} {s : State} {m : MethodId} {args : Array Value} {below : List Frame} {meth : Method} {c : Code} {H H0 : Heap} {locs : List Loc} {cells slots : Nat} {Q : State → Prop}
variable {cc : ByteArray} {pc : Nat} {ls : Array Slot} {rest st0 : List Value} {g : EG} {lo : Nat} {ad : Nat → Nat → Nat} {σ τ σ' τ' : Sg} {u u' : Nat → Int64} {Ts : List Cond}
/-- a call that writes some of the class's cells in place -/
theorem xc_mu {own : String} {y : MethodName} {bytes : ByteArray} {maxL nL index n K i ci : Nat} {fs : List Value} {r : vw_C} {ret : Option FieldType} {ws ws' : List Cond} {rm : Room} {As v : List Value} {ov : Option Value} (S : CallFix p m c cc nL s args Ts own) (hK : KK g s) (hS : XS g lo ad σ u τ H0 H locs) (hi : i < xcnt σ K) (hcn : xcont g.2 ad σ u τ K i = .inr (ci, fs)) (hcl : vwCl[ci]? = some r)
    (hc : Met l y ws rm (va_Pc (.ref (ad K i) :: As) (fun U => XR g ad σ u τ U.heap ∧ KK g U)) (QM (.returned ov) (fun H1 => XR g ad σ' u' τ' H1) (xown ad σ)) 0 0 (fun q => lo ≤ q)) (hG : GoodIn Ts (wsV own index r.1 y ws)) (hw : ws = Cond.code y bytes maxL ret :: ws') (hrc : rm.cells = 0) (hrs : rm.slots = 0)
    (hd : y.cls = r.1 ∧ y.cls ≠ "java/lang/invoke/MethodHandle" ∧ y.cls ≠ "java/lang/invoke/VarHandle" ∧ (parseMethodDescriptor y.desc).map (fun d => d.parameters.length) = some n) (hR : rm.frames + 1 ≤ R.frames ∧ 8 + (maxL + 11) + rm.locals ≤ R.locals)
    (hn : As.length = n) (hsize : ls.size = nL) (hst : st0 = As.reverse ++ .ref (ad K i) :: rest) (hcat : (rest.map fun v => v.category).sum ≤ 8) (hdg : decode cc pc = .ok (.invokevirtual index, 3)) (hf : cells ≤ R.cells ∧ slots ≤ R.slots) (hov : ov.toList = v) (hxn : xcnt σ' = xcnt σ)
    (kk : ∀ (H1 : Heap) (locs1 : List Loc), XS g lo ad σ' u' τ' H0 H1 locs1 → W p l e R s m args below meth c H1 locs1 cells slots Q (F0 m (pc + 3) ls (v ++ rest))) : W p l e R s m args below meth c H locs cells slots Q (F0 m pc ls st0) := by
  subst hst
  have hx : ∀ q, xown ad σ' q ↔ xown ad σ q := fun q => by unfold xown; rw [hxn]
  exact cr_mu hov (va_runV (As := As) (rest := rest) S hc (cwV n S.2.2.2.2 hG hw hrc hrs hd hR) ⟨fun a U g9 mk q => by obtain ⟨q0, q1, q2⟩ := q; exact ⟨q0, q1, va_K.moved (u := U) (U := U.calling g9 mk a) (Vm.Alike.refl U.vm) q2⟩, va_recv hK (sp_one (hS.1 K i hi)) (q0 := 0) hcl (by rw [hcn]; rfl), fun U hU hW => ⟨rfl, by rw [hU]; exact hS.1, va_K.moved hW.alike hK⟩⟩ rfl hn hsize rfl (lv_room hcat) hdg hf) hS.2.2.2
    (fun H1 locs1 h1 h2 h3 h4 => kk H1 locs1 ⟨h1, h2.trans hS.2.1, fun q hq => (h3 q (fun z => hq ((hx q).mpr z))).trans (hS.2.2.1 q (fun z => hq ((hx q).mpr z))), h4⟩)
theorem xs_mu {y : MethodName} {own : String} {bytes : ByteArray} {maxL nL index n : Nat} {ret : Option FieldType} {ws ws' : List Cond} {rm : Room} {As v : List Value} {ov : Option Value} (S : CallFix p m c cc nL s args Ts own) (hK : KK g s) (hS : XS g lo ad σ u τ H0 H locs)
    (hc : Met l y ws rm (va_Pc As (fun U => XR g ad σ u τ U.heap ∧ KK g U)) (QM (.returned ov) (fun H1 => XR g ad σ' u' τ' H1) (xown ad σ)) 0 0 (fun q => lo ≤ q)) (hG : GoodIn Ts (va_wsS own index y ws)) (hw : ws = Cond.code y bytes maxL ret :: ws') (hrc : rm.cells = 0) (hrs : rm.slots = 0)
    (hd : y.cls ≠ "java/lang/invoke/MethodHandle" ∧ y.cls ≠ "java/lang/invoke/VarHandle" ∧ (parseMethodDescriptor y.desc).map (fun d => d.parameters.length) = some n) (hR : rm.frames + 1 ≤ R.frames ∧ 8 + (maxL + 11) + rm.locals ≤ R.locals)
    (hn : As.length = n) (hsize : ls.size = nL) (hst : st0 = As.reverse ++ rest) (hcat : (rest.map fun v => v.category).sum ≤ 8) (hdg : decode cc pc = .ok (.invokestatic index, 3)) (hf : cells ≤ R.cells ∧ slots ≤ R.slots) (hov : ov.toList = v) (hxn : xcnt σ' = xcnt σ)
    (kk : ∀ (H1 : Heap) (locs1 : List Loc), XS g lo ad σ' u' τ' H0 H1 locs1 → W p l e R s m args below meth c H1 locs1 cells slots Q (F0 m (pc + 3) ls (v ++ rest))) : W p l e R s m args below meth c H locs cells slots Q (F0 m pc ls st0) := by
  subst hst
  have hx : ∀ q, xown ad σ' q ↔ xown ad σ q := fun q => by unfold xown; rw [hxn]
  exact cr_mu hov (va_runS (As := As) (rest := rest) S hc (va_cwS n S.2.2.2.2 hG hw hrc hrs hd hR) ⟨fun a U g9 mk q => by obtain ⟨q0, q1, q2⟩ := q; exact ⟨q0, q1, va_K.moved (u := U) (U := U.calling g9 mk a) (Vm.Alike.refl U.vm) q2⟩, fun U hU hW => ⟨rfl, by rw [hU]; exact hS.1, va_K.moved hW.alike hK⟩⟩ rfl hn hsize rfl (lv_room hcat) hdg hf) hS.2.2.2
    (fun H1 locs1 h1 h2 h3 h4 => kk H1 locs1 ⟨h1, h2.trans hS.2.1, fun q hq => (h3 q (fun z => hq ((hx q).mpr z))).trans (hS.2.2.1 q (fun z => hq ((hx q).mpr z))), h4⟩)
end XMROWS
