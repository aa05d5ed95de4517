/-! ===== constructors ===== -/
def QN (o : Outcome) (P : Heap → Heap → Prop) (k a : Nat) : Array Value → State → Outcome → State → Prop := fun _ st oc t => oc = o ∧ P st.heap t.heap ∧ t.heap.size = st.heap.size + k ∧ ∀ q, q < st.heap.size → q ≠ a → t.heap[q]? = st.heap[q]?
theorem locA {lo : Nat} {locs : List Loc} {a j : Nat} (h : ∀ z ∈ locs, lo ≤ z.base) (ha : lo ≤ a) : ∀ z ∈ locs ++ [⟨a, j⟩], lo ≤ z.base := fun z hz => (List.mem_append.mp hz).elim (h z) (fun h => by rw [List.mem_singleton.mp h]; exact ha)
section CTOR
variable {p : Program} {l : Launch} {e : Env} {R : Room} {s : State} {m : MethodId} {args : Array Value} {below : List Frame} {meth : Method} {c : Code} {H : Heap} {locs : List Loc} {cells slots : Nat} {Q : State → Prop}
variable {cc : ByteArray} {pc : Nat} {ls : Array Slot} {rest st0 : List Value} {g : EG} {lo : Nat} {D : va_G} {cl : List vw_C} {tys : List (ClassId × FieldType)}
theorem sp_newB {b0 : Nat} (e0 : H.size = b0) {c0 : Code} (hexec : p.tables.exec = Jvm.exec) (hb : c0.code = cc) {own C : String} {T : u_T} {N ci index : Nat} {Ts : List Cond} (hts : ∀ w ∈ Ts, w.before args s = true) (hin : ∀ w ∈ u_ws C T N, w ∈ Ts) (ty : Nat → FieldType) (hty : ∀ k, k < N → parseFieldDescriptor (T k).2.2.1 = some (ty k)) (hown : s.vm.findClass own = some m.cls) (hcl : (Cond.classLink own index C).before args s = true) (hinst : (Cond.instantiable C N).before args s = true) (hini : (Cond.initialized C).before args s = true)
    (hK : va_K D cl tys s) (hc : cl[ci]? = some (C, T, N)) {fs : List Value} (hfs : ∀ j, j < N → defaultValue (ty j) = vp_V fs j) (hcells : cells + 1 ≤ R.cells) (hslots : slots + N ≤ R.slots) (hdg : decode cc pc = .ok (.new index, 3))
    (kk : ∀ (H1 : Heap), va_at D cl (b0, .inr (ci, fs)) H1 → H1.size = b0 + 1 → (∀ q, q < b0 → H1[q]? = H[q]?) →
      W p l e R s m args below meth c0 H1 locs (cells + 1) (slots + N) Q (F0 m (pc + 3) ls (.ref b0 :: rest))) : W p l e R s m args below meth c0 H locs cells slots Q (F0 m pc ls rest) := by
  subst e0
  exact sp_new hexec hb hts hin ty hty hown hcl hinst hini hK hc hfs hcells hslots hdg kk
theorem sp_newaB {b0 : Nat} (e0 : H.size = b0) (hexec : p.tables.exec = Jvm.exec) (hb : c.code = cc) (harr : (Cond.arrayClass .int).before args s = true) (hK : KK g s)
    (hcells : cells + 1 ≤ R.cells) (hslots : slots + 3 ≤ R.slots) (hdg : decode cc pc = .ok (.newarray .int, 2))
    (kk : ∀ (H1 : Heap), va_at g.1 vwCl (b0, .inl (g.2 1, 3, .inl (fun _ => 0))) H1 → H1.size = b0 + 1 → (∀ q, q < b0 → H1[q]? = H[q]?) →
      W p l e R s m args below meth c H1 locs (cells + 1) (slots + 3) Q (F0 m (pc + 2) ls (.ref b0 :: rest))) : W p l e R s m args below meth c H locs cells slots Q (F0 m pc ls (.int 3 :: rest)) := by
  subst e0
  exact sp_newa (ty := .int) (atype := .int) hexec hb harr rfl hK 1 rfl (fun cA h => Option.some.inj (h.symm.trans (hK.2 1 _ rfl).2)) (fun cA => rfl) (by decide) (by decide) (by decide) hcells hslots hdg kk
theorem ctor_call {own : String} {y : MethodName} {bytes : ByteArray} {maxL nL index n b k mc ms : Nat} {ws ws' Ts : List Cond} {rm : Room} {As : List Value} {P : Heap → Heap → Prop} {Pre : State → Prop} (S : CallFix p m c cc nL s args Ts own)
    (hc : Met l y ws rm (va_Pc (.ref b :: As) Pre) (QN (.returned none) P k b) mc ms (fun q => lo ≤ q)) (hpre : ∀ U : State, U.heap = H → s.WarmedH U.vm → Pre U) (hcal : ∀ (U : State) (a : Array Value) (g9 : JFrame) (mk : MethodId), Pre U → Pre (U.calling g9 mk a)) (hG : GoodIn Ts ws) (hw : ws = Cond.code y bytes maxL none :: ws') (hrc : rm.cells = mc) (hrs : rm.slots = ms)
    (hini : (Cond.initialized y.cls).before args s = true) (hlk : (Cond.methodLink own index y).before args s = true) (hin : (Cond.instanceMethod y).before args s = true) (hy1 : y.name = "<init>")
    (hd : y.cls ≠ "java/lang/invoke/MethodHandle" ∧ y.cls ≠ "java/lang/invoke/VarHandle" ∧ (parseMethodDescriptor y.desc).map (fun d => d.parameters.length) = some n) (hR : rm.frames + 1 ≤ R.frames ∧ 8 + (maxL + 11) + rm.locals ≤ R.locals)
    (hn : As.length = n) (hsize : ls.size = nL) (hst : st0 = As.reverse ++ .ref b :: rest) (hcat : (rest.map fun v => v.category).sum ≤ 8) (hdg : decode cc pc = .ok (.invokespecial index, 3)) (hf : cells + mc ≤ R.cells ∧ slots + ms ≤ R.slots) (hlc : ∀ z ∈ locs, lo ≤ z.base)
    (kk : ∀ (H1 : Heap) (locs1 : List Loc), P H H1 → H1.size = H.size + k → (∀ q, q < H.size → q ≠ b → H1[q]? = H[q]?) → (∀ z ∈ locs1, lo ≤ z.base) → W p l e R s m args below meth c H1 locs1 (cells + mc) (slots + ms) Q (F0 m (pc + 3) ls rest)) : W p l e R s m args below meth c H locs cells slots Q (F0 m pc ls st0) := by
  subst hst
  have hr := va_runI (e := e) (As := As) (rest := rest) (g := F0 m pc ls (As.reverse ++ .ref b :: rest)) (H := H) (locs := locs) (cells := cells) (slots := slots) (below := below) (meth := meth) S hc (cwI n S.2.2.2.2 hG hw hrc hrs hini hlk hin hy1 hd hR) ⟨fun a U g9 mk q => ⟨q.1, hcal U a g9 mk q.2⟩, fun U hU hW => ⟨rfl, hpre U hU hW⟩⟩ rfl hn hsize rfl (lv_room hcat) hdg hf
  intro T hT X
  obtain ⟨v1, st₀, t, T', L, h0, X', hL, e1, e2, ⟨hq, hP, hz, hh⟩, st⟩ := hr T hT X
  cases hq
  obtain ⟨t2, a1, b1⟩ := kk T'.heap (locs ++ L) (by rw [e1, ← h0]; exact hP) (by rw [e1, hz, h0]) (fun q h1 h2 => by rw [e1, hh q (by rw [h0]; exact h1) h2, h0]) (fun z hz => (List.mem_append.mp hz).elim (hlc z) (hL z)) T' rfl X'
  exact ⟨t2, st t2 a1, b1⟩
end CTOR
