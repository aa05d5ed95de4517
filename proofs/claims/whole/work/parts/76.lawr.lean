/-! ===== the law's helpers: a call that may throw, caught ===== -/
def CXW (U : State) : Prop := (∀ i, 1 ≤ i → i ≤ 6 → va_Nw (.castable (en i) (en i)) U) ∧ ∀ i j, 1 ≤ i → i ≤ 6 → 1 ≤ j → j ≤ 6 → i ≠ j → va_Nc (en i) (en j) U
theorem CXW.moved {s U : State} (hW : s.WarmedH U.vm) (h : CXW s) : CXW U := ⟨fun i h1 h2 => va_Nw.warmC hW (h.1 i h1 h2), fun i j h1 h2 h3 h4 h5 => va_Nc.moved hW.alike (h.2 i j h1 h2 h3 h4 h5)⟩
def EL (g : EG) (lo : Nat) (U : State) : Prop := EVN g lo U ∧ CXW U
theorem EL.at {g : EG} {lo : Nat} {s U : State} (h : EL g lo s) (hW : s.WarmedH U.vm) (hq : ∀ q, q < lo → U.heap[q]? = s.heap[q]?) : EL g lo U := ⟨h.1.at hW hq, h.2.moved hW⟩
theorem EL.calling {g : EG} {lo : Nat} {U : State} (h : EL g lo U) (g9 : JFrame) (mk : MethodId) (a : Array Value) : EL g lo (U.calling g9 mk a) := h.at (s := U) (U := U.calling g9 mk a) (State.WarmedH.refl U) (fun _ _ => rfl)
def OUTL (g : EG) (o : Nat) (H : Heap) : Prop := ∃ f : Nat → Int64, va_at g.1 vwCl (o, .inl (g.2 2, 1, .inr (.inl f))) H
def OUTD (g : EG) (o : Nat) (H : Heap) : Prop := ∃ f : Nat → UInt64, va_at g.1 vwCl (o, .inl (g.2 7, 1, .inr (.inr (.inr (.inl f))))) H
/-- the answer in its cell -/
def ANL (g : EG) (o : Nat) (x : Int64) (H : Heap) : Prop := ∃ f : Nat → Int64, va_at g.1 vwCl (o, .inl (g.2 2, 1, .inr (.inl f))) H ∧ f 0 = x
def AND (g : EG) (o : Nat) (x : UInt64) (H : Heap) : Prop := ∃ f : Nat → UInt64, va_at g.1 vwCl (o, .inl (g.2 7, 1, .inr (.inr (.inr (.inl f))))) H ∧ f 0 = x
/-- what a helper of the law does: t is answered; where that is 0 the class has gone on to a heap of G, the answer is in its cell -/
def QW (o : Nat) (t : Int32) (G : Heap → Heap → Prop) (N : Heap → Prop) : Array Value → State → Outcome → State → Prop := fun _ st oc tt => oc = .returned (some (.int t)) ∧ (t ≠ 0 → st.heap.size ≤ tt.heap.size ∧ ∀ q, q < st.heap.size → tt.heap[q]? = st.heap[q]?) ∧ (t = 0 → ∃ Hm, G st.heap Hm ∧ tt.heap.size = Hm.size ∧ (∀ q, q ≠ o → tt.heap[q]? = Hm[q]?) ∧ N tt.heap)
theorem met_ofWH {l : Launch} {y : MethodName} {ws ws' : List Cond} {rm : Room} {Pc : Array Value → State → Prop} {Qc : Array Value → State → Outcome → State → Prop} {mc ms : Nat} {free : Addr → Prop} {cc : ByteArray} {maxL : Nat} {ret : Option FieldType} {hh : List (Nat × Nat × Nat × Nat)}
    (hy : plainName y.cls = true) (hw : ws = Cond.codeWith y cc maxL ret hh :: ws')
    (body : ∀ p e s m args below meth c s₁, BodyLoose p l y (headSpec ws rm) cc maxL ret e s m args below meth c s₁ → c.maxLocals = maxL → Pc args s →
      W p l e (headSpec ws rm).room s m args below meth c s.heap [] 0 0 (MQ below Qc args s mc ms free) (entryFrame m args maxL)) : Met l y ws rm Pc Qc mc ms free := by
  refine MetFree.of_bodyS (code := cc) (maxLocals := maxL) (ret := ret) hy ?_ ?_
  · intro args s m h hn
    obtain ⟨m9, meth, c, hn9, h1, h2, h3, h4, -, h5, h6, -⟩ := Cond.codeWith_spec (atoms_spec (ws := ws) h _ (by rw [hw]; exact List.mem_cons_self))
    cases hn.symm.trans hn9
    exact ⟨meth, c, h1, h2, h3, h4, h5, h6⟩
  · intro p e s m args below meth c s₁ B hml hP _
    have hh0 : s₁.heap = s.heap := by rw [B.state]; rfl
    obtain ⟨t, a1, o, b1, b2, b3⟩ := body p e s m args below meth c s₁ B hml hP s₁ hh0 (Stand.of_body B)
    exact ⟨t, o, a1, b1, b2, b3⟩
section LAWR
variable {p : Program} {l : Launch} {e : Env} {R : Room} {s : State} {m : MethodId} {args : Array Value} {below : List Frame} {meth : Method} {c : Code} {H : Heap} {locs : List Loc} {cells slots : Nat} {Q : State → Prop}
variable {cc : ByteArray} {pc : Nat} {ls : Array Slot} {rest st0 : List Value} {g : EG} {lo : Nat} {ad : Nat → Nat → Nat} {σ τ : Sg} {u : Nat → Int64} {Ts : List Cond}
theorem xw_run {ex mc ms : Nat} {ov : Option Value} {Qa : State → Outcome → State → Prop} {G : Heap → Prop} {free : Addr → Prop} (hr : vx_Run p l e R s m args below meth c s.heap [] 0 0 mc ms (F0 m pc ls st0) rest Qa (XX ex) free)
    (hQ : ∀ st oc t, st.heap = s.heap → Qa st oc t → ex = 0 ∧ oc = .returned ov ∧ G t.heap)
    (kk : ∀ H1 L, ex = 0 → G H1 → (∀ z ∈ L, free z.base) → W p l e R s m args below meth c H1 L (0 + mc) (0 + ms) Q (F0 m (pc + 3) ls (ov.toList ++ rest)))
    (kx : ∀ H1 L q ce, ex ≠ 0 → s.heap.size ≤ H1.size → (∀ q, q < s.heap.size → H1[q]? = s.heap[q]?) → H1[q]? = some ce → ce.vm = .none → s.vm.findClass (en ex) = some ce.cls → (∀ z ∈ L, free z.base) → vx_W p l e R s m args below meth c H1 L (0 + mc) (0 + ms) Q (F0 m pc ls rest) q) :
    W p l e R s m args below meth c s.heap [] 0 0 Q (F0 m pc ls st0) := by
  intro T hT X
  rcases hr T hT X with ⟨v, st₀, t, T', L, h0, X', hL, e1, e2, hq, st⟩ | ⟨q, st₀, t, T', L, E, ce, h0, X', hL, e1, e2, ⟨h9, rfl, hz, ho⟩, hce, hcv, hcl, st⟩
  · obtain ⟨hex, ho, hG⟩ := hQ st₀ _ t h0 hq
    cases ho
    obtain ⟨t2, a1, b1⟩ := kk T'.heap L hex (by rw [e1]; exact hG) hL T' rfl X'
    exact ⟨t2, st t2 a1, b1⟩
  · obtain ⟨t2, a1, b1⟩ := kx T'.heap L q ce h9 (by rw [e1, ← h0]; exact hz) (fun q hq => by rw [e1, ← h0]; exact ho q (by rw [h0]; exact hq)) (by rw [e1]; exact hce) hcv hcl hL T' rfl X'
    exact ⟨t2, st.trans a1, b1⟩
/-- the class's call that may throw, out of a helper of the law -/
theorem xw_v {ex mc ms : Nat} {own : String} {y : MethodName} {bytes : ByteArray} {maxL nL index n : Nat} {ov : Option Value} {ret : Option FieldType} {ws ws' : List Cond} {rm : Room} {As : List Value} {Pre : State → Prop} {Qc : Array Value → State → Outcome → State → Prop} {G : Heap → Prop} {free : Addr → Prop} (S : CallFix p m c cc nL s args Ts own) (hE : EL g lo s) (hX : XR g ad σ u τ s.heap)
    (hc : vx_Met l y ws rm (va_Pc (.ref (ad 0 0) :: As) Pre) Qc (XX ex) mc ms free) (hpre : ∀ U : State, U.heap = s.heap → EL g lo U → Pre U) (hcal : ∀ (U : State) (a : Array Value) (g9 : JFrame) (mk : MethodId), Pre U → Pre (U.calling g9 mk a))
    (hQ : ∀ a st oc t, st.heap = s.heap → Qc a st oc t → ex = 0 ∧ oc = .returned ov ∧ G t.heap)
    (hG : GoodIn Ts (wsV own index RX6 y ws)) (hw : ws = Cond.code y bytes maxL ret :: ws') (hrc : rm.cells = mc) (hrs : rm.slots = ms)
    (hd : y.cls = RX6 ∧ y.cls ≠ "java/lang/invoke/MethodHandle" ∧ y.cls ≠ "java/lang/invoke/VarHandle" ∧ (parseMethodDescriptor y.desc).map (fun d => d.parameters.length) = some n) (hR : rm.frames + 1 ≤ R.frames ∧ 8 + (maxL + 11) + rm.locals ≤ R.locals)
    (hn : As.length = n) (hsize : ls.size = nL) (hst : st0 = As.reverse ++ .ref (ad 0 0) :: rest) (hcat : (rest.map fun v => v.category).sum ≤ 8) (hdg : decode cc pc = .ok (.invokevirtual index, 3)) (hf : 0 + mc ≤ R.cells ∧ 0 + ms ≤ R.slots)
    (kk : ∀ H1 L, ex = 0 → G H1 → (∀ z ∈ L, free z.base) → W p l e R s m args below meth c H1 L (0 + mc) (0 + ms) Q (F0 m (pc + 3) ls (ov.toList ++ rest)))
    (kx : ∀ H1 L q ce, ex ≠ 0 → s.heap.size ≤ H1.size → (∀ q, q < s.heap.size → H1[q]? = s.heap[q]?) → H1[q]? = some ce → ce.vm = .none → s.vm.findClass (en ex) = some ce.cls → (∀ z ∈ L, free z.base) → vx_W p l e R s m args below meth c H1 L (0 + mc) (0 + ms) Q (F0 m pc ls rest) q) :
    W p l e R s m args below meth c s.heap [] 0 0 Q (F0 m pc ls st0) := by
  subst hst
  exact xw_run (vx_runV (As := As) (rest := rest) S hc (cwV n S.2.2.2.2 hG hw hrc hrs hd hR) ⟨fun a U g9 mk q => ⟨q.1, hcal U a g9 mk q.2⟩, va_recv hE.1.1.1 (sp_one (hX 0 0 Nat.zero_lt_one)) (ci := 8) (q0 := 0) rfl rfl, fun U hU hW => ⟨rfl, hpre U hU (hE.at hW (fun q _ => by rw [hU]))⟩⟩ rfl hn hsize rfl (lv_room hcat) hdg hf) (fun st oc t h0 hq => hQ _ st oc t h0 hq) kk kx
/-- caught by the first, the second, the third handler -/
theorem xw_c1 {i ck : Nat} {ce : Cell} {q : Addr} {x : ExceptionTableEntry} {suf : List ExceptionTableEntry} {ec : Nat} (hown : s.vm.findClass RL = some m.cls) (htab : c.exceptionTable.toList = x :: suf) (hC : CXW s) (hi : 1 ≤ i ∧ i ≤ 6) (he : ec = i) (hx : covers x pc = true) (h0 : x.catchType = ck ∧ ck ≠ 0) (hlink : (Cond.classLink RL ck (en i)).before args s = true)
    (hcell : H[q]? = some ce) (hv : ce.vm = .none) (hcl : s.vm.findClass (en ec) = some ce.cls)
    (kk : W p l e R s m args below meth c H locs cells slots Q (F0 m x.handlerPc ls [.ref q])) : vx_W p l e R s m args below meth c H locs cells slots Q (F0 m pc ls rest) q := by
  subst he
  obtain ⟨h1, h2⟩ := h0
  subst h1
  exact vx_catch (own := RL) (name := en ec) (E := en ec) hown [] x suf htab (fun z hz => nomatch hz) hx h2 hlink (va_Nw.use rfl (hC.1 ec hi.1 hi.2)) hcell hv hcl kk
theorem xw_c2 {i j cj ck : Nat} {ce : Cell} {q : Addr} {y x : ExceptionTableEntry} {suf : List ExceptionTableEntry} {ec : Nat} (hown : s.vm.findClass RL = some m.cls) (htab : c.exceptionTable.toList = y :: x :: suf) (hC : CXW s) (hi : 1 ≤ i ∧ i ≤ 6) (hj : 1 ≤ j ∧ j ≤ 6) (hij : i ≠ j) (he : ec = i) (hx : covers x pc = true) (h0 : x.catchType = ck ∧ ck ≠ 0) (h1 : y.catchType = cj ∧ cj ≠ 0) (hlink : (Cond.classLink RL ck (en i)).before args s = true) (hlink1 : (Cond.classLink RL cj (en j)).before args s = true)
    (hcell : H[q]? = some ce) (hv : ce.vm = .none) (hcl : s.vm.findClass (en ec) = some ce.cls)
    (kk : W p l e R s m args below meth c H locs cells slots Q (F0 m x.handlerPc ls [.ref q])) : vx_W p l e R s m args below meth c H locs cells slots Q (F0 m pc ls rest) q := by
  subst he
  obtain ⟨h2, h3⟩ := h0
  obtain ⟨h4, h5⟩ := h1
  subst h2
  subst h4
  exact vx_catch (own := RL) (name := en ec) (E := en ec) hown [y] x suf htab (fun z hz => by rw [List.mem_singleton.mp hz]; exact Or.inr ⟨h5, en j, hlink1, hC.2 ec j hi.1 hi.2 hj.1 hj.2 hij⟩) hx h3 hlink (va_Nw.use rfl (hC.1 ec hi.1 hi.2)) hcell hv hcl kk
theorem xw_c3 {i j k cj ck cz : Nat} {ce : Cell} {q : Addr} {w y x : ExceptionTableEntry} {suf : List ExceptionTableEntry} {ec : Nat} (hown : s.vm.findClass RL = some m.cls) (htab : c.exceptionTable.toList = w :: y :: x :: suf) (hC : CXW s) (hi : 1 ≤ i ∧ i ≤ 6) (hj : 1 ≤ j ∧ j ≤ 6) (hk : 1 ≤ k ∧ k ≤ 6) (hij : i ≠ j ∧ i ≠ k) (he : ec = i) (hx : covers x pc = true) (h0 : x.catchType = ck ∧ ck ≠ 0) (h1 : y.catchType = cj ∧ cj ≠ 0) (h2 : w.catchType = cz ∧ cz ≠ 0) (hlink : (Cond.classLink RL ck (en i)).before args s = true) (hlink1 : (Cond.classLink RL cj (en j)).before args s = true) (hlink2 : (Cond.classLink RL cz (en k)).before args s = true)
    (hcell : H[q]? = some ce) (hv : ce.vm = .none) (hcl : s.vm.findClass (en ec) = some ce.cls)
    (kk : W p l e R s m args below meth c H locs cells slots Q (F0 m x.handlerPc ls [.ref q])) : vx_W p l e R s m args below meth c H locs cells slots Q (F0 m pc ls rest) q := by
  subst he
  obtain ⟨a0, a1⟩ := h0
  obtain ⟨b0, b1⟩ := h1
  obtain ⟨c0, c1⟩ := h2
  subst a0
  subst b0
  subst c0
  refine vx_catch (own := RL) (name := en ec) (E := en ec) hown [w, y] x suf htab (fun z hz => ?_) hx a1 hlink (va_Nw.use rfl (hC.1 ec hi.1 hi.2)) hcell hv hcl kk
  rcases List.mem_cons.mp hz with rfl | hz
  · exact Or.inr ⟨c1, en k, hlink2, hC.2 ec k hi.1 hi.2 hk.1 hk.2 hij.2⟩
  · rw [List.mem_singleton.mp hz]
    exact Or.inr ⟨b1, en j, hlink1, hC.2 ec j hi.1 hi.2 hj.1 hj.2 hij.1⟩
end LAWR
theorem exOf1 {a b d : Nat} {t : Int32} (h : t = 1) : exOf a b d t = a := by subst h; rfl
theorem exOf2 {a b d : Nat} {t : Int32} (h : t = 2) : exOf a b d t = b := by subst h; rfl
theorem exOf3 {a b d : Nat} {t : Int32} (h : t = 3) : exOf a b d t = d := by subst h; rfl
theorem exOf0 {a b d : Nat} {t : Int32} (h : exOf a b d t ≠ 0) : t ≠ 0 := fun q => h (if_pos q)
theorem exOfz {a b d : Nat} {t : Int32} (ha : a ≠ 0) (hb : t = 0 ∨ t = 1 ∨ (t = 2 ∧ b ≠ 0) ∨ (t = 3 ∧ d ≠ 0)) (h : exOf a b d t = 0) : t = 0 := by
  rcases hb with q | q | ⟨q, w⟩ | ⟨q, w⟩
  · exact q
  · rw [exOf1 q] at h; exact absurd h ha
  · rw [exOf2 q] at h; exact absurd h w
  · rw [exOf3 q] at h; exact absurd h w
