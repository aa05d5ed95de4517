/-! ===== base: single cells, contracts that leave the heap as it was, contracts that write in place ===== -/
section BASE
variable {p : Program} {l : Launch} {e : Env} {R : Room} {s : State} {m : MethodId} {args : Array Value} {below : List Frame} {meth : Method} {c : Code} {H : Heap} {locs : List Loc} {cells slots : Nat} {Q : State → Prop}
variable {cc : ByteArray} {pc : Nat} {ls : Array Slot} {rest st0 : List Value} {D : va_G} {cl : List vw_C} {a : Nat} {tys : List (ClassId × FieldType)}
theorem sp_one {q : Nat × va_E} (h : va_at D cl q H) : va_P D cl [q] H := by
  intro k r hk
  match k, hk with
  | 0, hk => cases hk; exact h
  | k + 1, hk => simp at hk
/-- putfield on one cell: the cell's new content, all others as they were -/
theorem sp_put (hexec : p.tables.exec = Jvm.exec) (hb : c.code = cc) {own ref C : String} {T : u_T} {N ci index : Nat} {Ts : List Cond} (hts : ∀ w ∈ Ts, w.before args s = true) (hin : ∀ w ∈ u_ws C T N, w ∈ Ts) (ty0 : Nat → FieldType) (hty : ∀ k, k < N → parseFieldDescriptor (T k).2.2.1 = some (ty0 k)) (hnm : ∀ a, a < N → ∀ b, b < N → a ≠ b → (T a).2.1 ≠ (T b).2.1) (hown : s.vm.findClass own = some m.cls) (hK : va_K D cl tys s) {fs : List Value} (hat : va_at D cl (a, .inr (ci, fs)) H) (hc : cl[ci]? = some (C, T, N)) (k : Nat) (hk : k < N) (hlink : (Cond.fieldLink own index ref (T k).2.1 (T k).2.2.1).before args s = true) (hsame : ∀ x, s.fieldFound? (T k).1 (T k).2.1 (T k).2.2.1 = some x → s.fieldFound? ref (T k).2.1 (T k).2.2.1 = some x) (hfin : (T k).2.2.2 = false) {ty : FieldType} {v : Value} (hd : parseFieldDescriptor (T k).2.2.1 = some ty) (hn : narrow ty v = v) (hfit : fits ty v = true) (hl : k < fs.length)
    (hdg : decode cc pc = .ok (.putfield index, 3)) (kk : ∀ (H1 : Heap) (j : Nat), va_at D cl (a, .inr (ci, fs.set k v)) H1 → H1.size = H.size → (∀ q, q ≠ a → H1[q]? = H[q]?) → W p l e R s m args below meth c H1 (locs ++ [⟨a, j⟩]) cells slots Q (F0 m (pc + 3) ls rest)) : W p l e R s m args below meth c H locs cells slots Q (F0 m pc ls (v :: .ref a :: rest)) := by
  have hap := va_apart (own := own) hts hin ty0 hty hnm hK hc
  obtain ⟨r, h1, cell, q1, q2, q3, q4⟩ := hat
  have hr : r = (C, T, N) := Option.some.inj (h1.symm.trans hc)
  subst hr
  obtain ⟨hS, hfc, kC, hkC, hkind⟩ := hK.1 ci _ hc
  obtain ⟨cf, kf, fi, f, hi, hsl⟩ := hS k hk
  have hlay := hts _ (hin _ (u_in_lay hk))
  unfold u_lay at hlay
  rw [if_neg (by rw [hfin]; decide)] at hlay
  have hst := (u_facts hfc hkC (u_lays hts hin hk) hi).1
  have h6 := u_store hfc hkC hkind hlay hi hd hn hfit
  refine W.putK hexec hb (f := f) ⟨hown, hlink, ⟨_, _, _, hsame _ hi⟩, hst⟩ (by rw [q2]; exact h6) q1 q3 (by rw [hsl]; exact k2_hasslot (q4 k hk)) rfl rfl hdg fun H' e1 e2 e3 => ?_
  rw [hsl] at e1 ⊢
  exact kk H' _ ⟨_, hc, t_OB.to (V := updV (vp_V fs) k v) ⟨_, e1, q2, q3, t_set q4 hap hk v⟩ (fun j _ => vp_updV_set hl v j)⟩ e2 e3
/-- putfield of a final field, in the constructor -/
theorem sp_putF (hexec : p.tables.exec = Jvm.exec) (hb : c.code = cc) {own ref C : String} {T : u_T} {N ci index : Nat} {Ts : List Cond} (hts : ∀ w ∈ Ts, w.before args s = true) (hin : ∀ w ∈ u_ws C T N, w ∈ Ts) (ty0 : Nat → FieldType) (hty : ∀ k, k < N → parseFieldDescriptor (T k).2.2.1 = some (ty0 k)) (hnm : ∀ a, a < N → ∀ b, b < N → a ≠ b → (T a).2.1 ≠ (T b).2.1) (hown : s.vm.findClass own = some m.cls) (hK : va_K D cl tys s) {fs : List Value} (hat : va_at D cl (a, .inr (ci, fs)) H) (hc : cl[ci]? = some (C, T, N)) (k : Nat) (hk : k < N) (hlink : (Cond.fieldLink own index ref (T k).2.1 (T k).2.2.1).before args s = true) (hsame : ∀ x, s.fieldFound? (T k).1 (T k).2.1 (T k).2.2.1 = some x → s.fieldFound? ref (T k).2.1 (T k).2.2.1 = some x) (hfin : (T k).2.2.2 = true) (hin2 : meth.name = "<init>") (hdecl : (T k).1 = own) {ty : FieldType} {v : Value} (hd : parseFieldDescriptor (T k).2.2.1 = some ty) (hn : narrow ty v = v) (hfit : fits ty v = true) (hl : k < fs.length)
    (hdg : decode cc pc = .ok (.putfield index, 3)) (kk : ∀ (H1 : Heap) (j : Nat), va_at D cl (a, .inr (ci, fs.set k v)) H1 → H1.size = H.size → (∀ q, q ≠ a → H1[q]? = H[q]?) → W p l e R s m args below meth c H1 (locs ++ [⟨a, j⟩]) cells slots Q (F0 m (pc + 3) ls rest)) : W p l e R s m args below meth c H locs cells slots Q (F0 m pc ls (v :: .ref a :: rest)) := by
  have hap := va_apart (own := own) hts hin ty0 hty hnm hK hc
  obtain ⟨r, h1, cell, q1, q2, q3, q4⟩ := hat
  have hr : r = (C, T, N) := Option.some.inj (h1.symm.trans hc)
  subst hr
  obtain ⟨hS, hfc, kC, hkC, hkind⟩ := hK.1 ci _ hc
  obtain ⟨cf, kf, fi, f, hi, hsl⟩ := hS k hk
  have hlay := hts _ (hin _ (u_in_lay hk))
  unfold u_lay at hlay
  rw [if_pos hfin] at hlay
  have hst := (u_facts hfc hkC (u_lays hts hin hk) hi).1
  have hcf : m.cls = cf := by
    obtain ⟨_, _, c', _, _, _, -, -, hf', -, -, -, hown2, -⟩ := Cond.laysFinal_spec hlay
    have e1 : c' = cf := by have := hi.symm.trans hf'; simp at this; exact this.1.symm
    rw [hdecl] at hown2
    rw [← e1]; exact Option.some.inj (hown.symm.trans hown2)
  have h6 := u_fits hfc hkC hkind (Or.inr hlay) hi hd hn hfit
  refine W.putFinK hexec hb hown hlink (hsame _ hi) hst hcf hin2 (by rw [q2]; exact h6) q1 q3 (by rw [hsl]; exact k2_hasslot (q4 k hk)) rfl rfl hdg fun H' e1 e2 e3 => ?_
  rw [hsl] at e1 ⊢
  exact kk H' _ ⟨_, hc, t_OB.to (V := updV (vp_V fs) k v) ⟨_, e1, q2, q3, t_set q4 hap hk v⟩ (fun j _ => vp_updV_set hl v j)⟩ e2 e3

theorem sp_iast (hexec : p.tables.exec = Jvm.exec) (hb : c.code = cc) (hK : va_K D cl tys s) (t0 : Nat) {cA : ClassId} {n : Nat} {f : Nat → Int32} (hat : va_at D cl (a, .inl (cA, n, .inl f)) H) (ht : tys[t0]? = some (cA, .int)) {i : Int32} {x : Int32} (hin : vp_in i n) (hdg : decode cc pc = .ok (.iastore, 1))
    (kk : ∀ (H1 : Heap) (j : Nat), va_at D cl (a, .inl (cA, n, .inl (upd f i.toNatClampNeg x))) H1 → H1.size = H.size → (∀ q, q ≠ a → H1[q]? = H[q]?) → W p l e R s m args below meth c H1 (locs ++ [⟨a, j⟩]) cells slots Q (F0 m (pc + 1) ls rest)) : W p l e R s m args below meth c H locs cells slots Q (F0 m pc ls (.int x :: .int i :: .ref a :: rest)) := by
  refine W.iast hexec hb hat ((hK.2 t0 _ ht).1 n (fun j => .int (f j))) (fun q => by cases q) (by show ¬ (i < 0 ∨ (arrV _ _ _).slots.size ≤ _); rw [arrV_size]; exact hin) rfl rfl hdg fun H1 e z oq => ?_
  refine kk H1 _ ?_ z oq
  show H1[a]? = some (vp_cell _ _)
  rw [e]
  rw [vp_cell_i, vp_cell_i, arrV_store]
  congr 2
  funext q
  by_cases hq : q = i.toNatClampNeg
  · subst hq
    simp [updV, upd]
    try rfl
  · simp [updV, upd, hq]

theorem sp_cast (hexec : p.tables.exec = Jvm.exec) (hb : c.code = cc) (hK : va_K D cl tys s) (t0 : Nat) {cA : ClassId} {n : Nat} {f : Nat → Int32} (hat : va_at D cl (a, .inl (cA, n, .inl f)) H) (ht : tys[t0]? = some (cA, .char)) {i : Int32} {x : Int32} (hin : vp_in i n) (hdg : decode cc pc = .ok (.castore, 1))
    (kk : ∀ (H1 : Heap) (j : Nat), va_at D cl (a, .inl (cA, n, .inl (upd f i.toNatClampNeg (vp_nar .char x)))) H1 → H1.size = H.size → (∀ q, q ≠ a → H1[q]? = H[q]?) → W p l e R s m args below meth c H1 (locs ++ [⟨a, j⟩]) cells slots Q (F0 m (pc + 1) ls rest)) : W p l e R s m args below meth c H locs cells slots Q (F0 m pc ls (.int x :: .int i :: .ref a :: rest)) := by
  refine W.cast hexec hb hat ((hK.2 t0 _ ht).1 n (fun j => .int (f j))) (fun q => by cases q) (by show ¬ (i < 0 ∨ (arrV _ _ _).slots.size ≤ _); rw [arrV_size]; exact hin) rfl rfl hdg fun H1 e z oq => ?_
  refine kk H1 _ ?_ z oq
  show H1[a]? = some (vp_cell _ _)
  rw [e]
  rw [vp_cell_i, vp_cell_i, arrV_store]
  congr 2
  funext q
  by_cases hq : q = i.toNatClampNeg
  · subst hq
    simp [updV, upd, vp_nar]
    try rfl
  · simp [updV, upd, vp_nar, hq]

theorem sp_last (hexec : p.tables.exec = Jvm.exec) (hb : c.code = cc) (hK : va_K D cl tys s) (t0 : Nat) {cA : ClassId} {n : Nat} {f : Nat → Int64} (hat : va_at D cl (a, .inl (cA, n, .inr (.inl f))) H) (ht : tys[t0]? = some (cA, .long)) {i : Int32} {x : Int64} (hin : vp_in i n) (hdg : decode cc pc = .ok (.lastore, 1))
    (kk : ∀ (H1 : Heap) (j : Nat), va_at D cl (a, .inl (cA, n, .inr (.inl (vp_updL f i.toNatClampNeg x)))) H1 → H1.size = H.size → (∀ q, q ≠ a → H1[q]? = H[q]?) → W p l e R s m args below meth c H1 (locs ++ [⟨a, j⟩]) cells slots Q (F0 m (pc + 1) ls rest)) : W p l e R s m args below meth c H locs cells slots Q (F0 m pc ls (.long x :: .int i :: .ref a :: rest)) := by
  refine W.last hexec hb hat ((hK.2 t0 _ ht).1 n (fun j => .long (f j))) (fun q => by cases q) (by show ¬ (i < 0 ∨ (arrV _ _ _).slots.size ≤ _); rw [arrV_size]; exact hin) rfl rfl hdg fun H1 e z oq => ?_
  refine kk H1 _ ?_ z oq
  show H1[a]? = some (vp_cell _ _)
  rw [e]
  rw [vp_cell_l, vp_cell_l, arrV_store]
  congr 2
  funext q
  by_cases hq : q = i.toNatClampNeg
  · subst hq
    simp [updV, vp_updL]
    try rfl
  · simp [updV, vp_updL, hq]

theorem sp_dast (hexec : p.tables.exec = Jvm.exec) (hb : c.code = cc) (hK : va_K D cl tys s) (t0 : Nat) {cA : ClassId} {n : Nat} {f : Nat → UInt64} (hat : va_at D cl (a, .inl (cA, n, .inr (.inr (.inr (.inl f))))) H) (ht : tys[t0]? = some (cA, .double)) {i : Int32} {x : UInt64} (hin : vp_in i n) (hdg : decode cc pc = .ok (.dastore, 1))
    (kk : ∀ (H1 : Heap) (j : Nat), va_at D cl (a, .inl (cA, n, .inr (.inr (.inr (.inl (vf_upd f i.toNatClampNeg x)))))) H1 → H1.size = H.size → (∀ q, q ≠ a → H1[q]? = H[q]?) → W p l e R s m args below meth c H1 (locs ++ [⟨a, j⟩]) cells slots Q (F0 m (pc + 1) ls rest)) : W p l e R s m args below meth c H locs cells slots Q (F0 m pc ls (.double x :: .int i :: .ref a :: rest)) := by
  refine W.dast hexec hb hat ((hK.2 t0 _ ht).1 n (fun j => .double (f j))) (fun q => by cases q) (by show ¬ (i < 0 ∨ (arrV _ _ _).slots.size ≤ _); rw [arrV_size]; exact hin) rfl rfl hdg fun H1 e z oq => ?_
  refine kk H1 _ ?_ z oq
  show H1[a]? = some (vp_cell _ _)
  rw [e]
  rw [vp_cell_d, vp_cell_d, arrV_store]
  congr 2
  funext q
  by_cases hq : q = i.toNatClampNeg
  · subst hq
    simp [updV, vf_upd]
    try rfl
  · simp [updV, vf_upd, hq]

/-- aastore of an object of the array's class -/
theorem sp_aast (hexec : p.tables.exec = Jvm.exec) (hb : c.code = cc) (hK : va_K D cl tys s) (t0 ci : Nat) {cA : ClassId} {r : vw_C} {n v : Nat} {vs : List Value} {f : Nat → Option Nat} (hat : va_at D cl (a, .inl (cA, n, .inr (.inr (.inr (.inr f))))) H) (ht : tys[t0]? = some (cA, .object r.1)) (hv : va_at D cl (v, .inr (ci, vs)) H) (hc : cl[ci]? = some r) {i : Int32} (hin : vp_in i n) (hdg : decode cc pc = .ok (.aastore, 1))
    (kk : ∀ (H1 : Heap) (j : Nat), va_at D cl (a, .inl (cA, n, .inr (.inr (.inr (.inr (va_up f i.toNatClampNeg (some v))))))) H1 → H1.size = H.size → (∀ q, q ≠ a → H1[q]? = H[q]?) → W p l e R s m args below meth c H1 (locs ++ [⟨a, j⟩]) cells slots Q (F0 m (pc + 1) ls rest)) : W p l e R s m args below meth c H locs cells slots Q (F0 m pc ls (.ref v :: .int i :: .ref a :: rest)) := by
  have hlt : i.toNatClampNeg < n := Nat.not_le.mp fun q => hin (Or.inr q)
  have h0 : ¬ i < 0 := fun q => hin (Or.inl q)
  obtain ⟨r', hr', cellV, g1, g2, g3, -⟩ := hv
  have hcls := (hK.1 ci r hc).2
  obtain ⟨kA, comp, k1, k2, k3, -⟩ := (hK.2 t0 _ ht).2
  have hcomp : comp = D.1 ci := Option.some.inj (k3.symm.trans hcls.1)
  subst hcomp
  obtain ⟨kC, hkC, -⟩ := hcls.2
  refine W.aast hexec hb hat (fun q h => by cases h) (fun h => by cases h) k1 k2 rfl hkC ⟨h0, by show _ < (arrV _ _ _).slots.size; rw [arrV_size]; exact hlt⟩ g1 (fun q h => by rw [g3] at h; cases h) (by rw [g2]; exact hkC) (by rw [g2]; exact va_assign hcls) rfl rfl hdg fun H1 e z oq => ?_
  refine kk H1 _ ?_ z oq
  show H1[a]? = some (vp_cell _ _)
  rw [e]
  rw [vp_cell_q, vp_cell_q, arrV_store]
  congr 2
  funext q
  by_cases hq : q = i.toNatClampNeg
  · subst hq
    simp [updV, va_up, va_rf]
  · simp [updV, va_up, hq]
/-- new: the object at the heap's old size -/
theorem sp_new {c0 : Code} (hexec : p.tables.exec = Jvm.exec) (hb : c0.code = cc) {own C : String} {T : u_T} {N ci index : Nat} {Ts : List Cond} (hts : ∀ w ∈ Ts, w.before args s = true) (hin : ∀ w ∈ u_ws C T N, w ∈ Ts) (ty : Nat → FieldType) (hty : ∀ k, k < N → parseFieldDescriptor (T k).2.2.1 = some (ty k)) (hown : s.vm.findClass own = some m.cls) (hcl : (Cond.classLink own index C).before args s = true) (hinst : (Cond.instantiable C N).before args s = true) (hini : (Cond.initialized C).before args s = true)
    (hK : va_K D cl tys s) (hc : cl[ci]? = some (C, T, N)) {fs : List Value} (hfs : ∀ j, j < N → defaultValue (ty j) = vp_V fs j) (hcells : cells + 1 ≤ R.cells) (hslots : slots + N ≤ R.slots) (hdg : decode cc pc = .ok (.new index, 3))
    (kk : ∀ (H1 : Heap), va_at D cl (H.size, .inr (ci, fs)) H1 → H1.size = H.size + 1 → (∀ q, q < H.size → H1[q]? = H[q]?) →
      W p l e R s m args below meth c0 H1 locs (cells + 1) (slots + N) Q (F0 m (pc + 3) ls (.ref H.size :: rest))) : W p l e R s m args below meth c0 H locs cells slots Q (F0 m pc ls rest) := by
  have hKn := hK.1 ci _ hc
  refine W.newcK hexec hb hown hcl hinst hini rfl hdg hcells hslots hKn.2.1 rfl fun H1 kC hkC e1 z1 o1 => ?_
  exact kk H1 ⟨_, hc, (u_born ty hts hin hKn hkC e1 hty).to hfs⟩ z1 o1
/-- a new array of numbers -/
theorem sp_newa (hexec : p.tables.exec = Jvm.exec) (hb : c.code = cc) {atype : ArrayType} (harr : (Cond.arrayClass (newarray.typeOf atype)).before args s = true) {ty : FieldType} (hty : newarray.typeOf atype = ty) (hK : va_K D cl tys s) (t0 : Nat) {cT : ClassId} (ht : tys[t0]? = some (cT, ty)) (hfd : ∀ cA : ClassId, s.vm.findClass ("[" ++ ty.toString) = some cA → cA = cT)
    {n : Int32} {N' : Nat} {a0 : vp_A} (ha : ∀ cA : ClassId, vp_cell cA a0 = arrV cA N' (fun _ => defaultValue ty)) (hn : ¬ n < 0) (hN : n.toNatClampNeg = N') (hbytes : N' * componentBytes ty ≤ 536870912) (hcells : cells + 1 ≤ R.cells) (hslots : slots + N' ≤ R.slots) (hdg : decode cc pc = .ok (.newarray atype, 2))
    (kk : ∀ (H1 : Heap), va_at D cl (H.size, .inl (cT, a0)) H1 → H1.size = H.size + 1 → (∀ q, q < H.size → H1[q]? = H[q]?) →
      W p l e R s m args below meth c H1 locs (cells + 1) (slots + N') Q (F0 m (pc + 2) ls (.ref H.size :: rest))) : W p l e R s m args below meth c H locs cells slots Q (F0 m pc ls (.int n :: rest)) := by
  subst hty
  refine va_newaK hexec hb harr rfl hdg rfl hn hN hbytes hcells hslots rfl fun H1 cA e1 z1 o1 hAr hNm => ?_
  have e9 := hfd cA hNm
  subst e9
  refine kk H1 ?_ z1 o1
  show H1[H.size]? = some (vp_cell _ _)
  rw [ha]
  exact e1
/-! contracts: the heap as it was; or written in place -/
def QR (o : Outcome) : Array Value → State → Outcome → State → Prop := fun _ st oc t => oc = o ∧ t.heap = st.heap
def QM (o : Outcome) (P : Heap → Prop) (own : Nat → Prop) : Array Value → State → Outcome → State → Prop := fun _ st oc t => oc = o ∧ P t.heap ∧ t.heap.size = st.heap.size ∧ ∀ q, ¬ own q → t.heap[q]? = st.heap[q]?
theorem cr_ro {v : List Value} {ov : Option Value} {a0 : Array Value} (hv : ov.toList = v) (hr : va_Run p l e R s m args below meth c H locs cells slots 0 0 (F0 m pc ls st0) rest (QR (.returned ov) a0) (fun _ => False))
    (kk : W p l e R s m args below meth c H locs cells slots Q (F0 m (pc + 3) ls (v ++ rest))) : W p l e R s m args below meth c H locs cells slots Q (F0 m pc ls st0) := by
  intro T hT X
  obtain ⟨v1, st₀, t, T', L, h0, X', hL, e1, e2, ⟨hq, hh⟩, st⟩ := hr T hT X
  cases hq
  have hL0 : L = [] := by
    cases L with
    | nil => rfl
    | cons z r => exact (hL z List.mem_cons_self).elim
  subst hL0
  rw [List.append_nil] at X'
  obtain ⟨t2, a1, b1⟩ := kk T' (by rw [e1, hh, h0]) X'
  subst hv
  exact ⟨t2, st t2 a1, b1⟩
theorem cr_mu {lo : Nat} {v : List Value} {ov : Option Value} {a0 : Array Value} {P : Heap → Prop} {own : Nat → Prop} {mc ms : Nat} (hv : ov.toList = v) (hr : va_Run p l e R s m args below meth c H locs cells slots mc ms (F0 m pc ls st0) rest (QM (.returned ov) P own a0) (fun q => lo ≤ q)) (hl : ∀ z ∈ locs, lo ≤ z.base)
    (kk : ∀ (H1 : Heap) (locs1 : List Loc), P H1 → H1.size = H.size → (∀ q, ¬ own q → H1[q]? = H[q]?) → (∀ z ∈ locs1, lo ≤ z.base) → W p l e R s m args below meth c H1 locs1 (cells + mc) (slots + ms) Q (F0 m (pc + 3) ls (v ++ rest))) : W p l e R s m args below meth c H locs cells slots Q (F0 m pc ls st0) := by
  intro T hT X
  obtain ⟨v1, st₀, t, T', L, h0, X', hL, e1, e2, ⟨hq, hP, hz, hh⟩, st⟩ := hr T hT X
  cases hq
  obtain ⟨t2, a1, b1⟩ := kk T'.heap (locs ++ L) (by rw [e1]; exact hP) (by rw [e1, hz, h0]) (fun q h => by rw [e1, hh q h, h0]) (fun z hz => (List.mem_append.mp hz).elim (hl z) (hL z)) T' rfl X'
  subst hv
  exact ⟨t2, st t2 a1, b1⟩
/-- a branch on a written truth value -/
theorem br_if_eq {c9 : Prop} [Decidable c9] (hexec : p.tables.exec = Jvm.exec) (hb : c.code = cc) {off : Int} {tgt : Nat} (hdg : decode cc pc = .ok (.ifCond .eq off, 3)) (ht : (pc : Int) + off = (tgt : Int))
    (k1 : ¬ c9 → W p l e R s m args below meth c H locs cells slots Q (F0 m tgt ls rest)) (k2 : c9 → W p l e R s m args below meth c H locs cells slots Q (F0 m (pc + 3) ls rest)) : W p l e R s m args below meth c H locs cells slots Q (F0 m pc ls (.int (if c9 then 1 else 0) :: rest)) := by
  refine lv_if_eq hexec hb hdg ht (fun h => ?_) (fun h => ?_)
  · exact k1 (fun hc => by rw [if_pos hc] at h; exact absurd h (by decide))
  · exact k2 (Decidable.byContradiction fun hc => h (by rw [if_neg hc]))
theorem br_if_ne {c9 : Prop} [Decidable c9] (hexec : p.tables.exec = Jvm.exec) (hb : c.code = cc) {off : Int} {tgt : Nat} (hdg : decode cc pc = .ok (.ifCond .ne off, 3)) (ht : (pc : Int) + off = (tgt : Int))
    (k1 : c9 → W p l e R s m args below meth c H locs cells slots Q (F0 m tgt ls rest)) (k2 : ¬ c9 → W p l e R s m args below meth c H locs cells slots Q (F0 m (pc + 3) ls rest)) : W p l e R s m args below meth c H locs cells slots Q (F0 m pc ls (.int (if c9 then 1 else 0) :: rest)) := by
  refine lv_if_ne hexec hb hdg ht (fun h => ?_) (fun h => ?_)
  · exact k1 (Decidable.byContradiction fun hc => h (by rw [if_neg hc]))
  · exact k2 (fun hc => by rw [if_pos hc] at h; exact absurd h (by decide))
end BASE

/-! the environment: classes and array classes, by place -/
abbrev EG : Type := va_G × (Nat → ClassId)
abbrev tyL (cy : Nat → ClassId) : List (ClassId × FieldType) := [(cy 0, .char), (cy 1, .int), (cy 2, .long), (cy 3, .object RX0), (cy 4, .object RX1), (cy 5, .object RX3), (cy 6, .object RX5), (cy 7, .double)]
abbrev KK (g : EG) (U : State) : Prop := va_K g.1 vwCl (tyL g.2) U
/-! the abstract state: rows of ints by the reference's field number (0 thrown, 1 recipes, 2 orders, 3 lots, 4 vats: at 0), and the grams used -/
abbrev Sg : Type := Nat → Nat → Int32
abbrev ti (x : Int32) : Nat := x.toNatClampNeg
def up (σ : Sg) (k i : Nat) (x : Int32) : Sg := fun k' => if k' = k then upd (σ k) i x else σ k'
theorem up_same (σ : Sg) (k i : Nat) (x : Int32) : up σ k i x k = upd (σ k) i x := by simp [up]
theorem up_ne (σ : Sg) {k k' : Nat} (i : Nat) (x : Int32) (h : k' ≠ k) : up σ k i x k' = σ k' := by simp [up, h]
theorem up_up (σ : Sg) (k i : Nat) (x y : Int32) : up (up σ k i x) k i y = up σ k i y := by
  funext k' j
  by_cases h : k' = k
  · subst h
    by_cases hj : j = i <;> simp [up, upd, hj]
  · simp [up, h]
theorem up_id (σ : Sg) (k i : Nat) {x : Int32} (h : σ k i = x) : up σ k i x = σ := by
  funext k' j
  by_cases hk : k' = k
  · subst hk
    by_cases hj : j = i
    · subst hj; simp [up, upd, h]
    · simp [up, upd, hj]
  · simp [up, hk]
theorem up_swap (σ : Sg) {k k2 : Nat} (i i2 : Nat) (x y : Int32) (h : k ≠ k2) : up (up σ k i x) k2 i2 y = up (up σ k2 i2 y) k i x := by
  funext k' j
  by_cases h1 : k' = k <;> by_cases h2 : k' = k2
  · exact absurd (h1.symm.trans h2) h
  · subst h1; simp [up, h2]
  · subst h2; simp [up, h1]
  · simp [up, h1, h2]

/-! the reference's object and rows: cell 0 the object, cell k the row of field k -/
abbrev mobj (ma : Nat → Nat) (σ : Sg) : List Value := [.int (σ 0 0), .int (σ 1 0), .int (σ 2 0), .int (σ 3 0), .int (σ 4 0), .ref (ma 5), .ref (ma 6), .ref (ma 7), .ref (ma 8), .ref (ma 9), .ref (ma 10), .ref (ma 11), .ref (ma 12), .ref (ma 13), .ref (ma 14), .ref (ma 15), .ref (ma 16), .ref (ma 17), .ref (ma 18), .ref (ma 19), .ref (ma 20), .ref (ma 21), .ref (ma 22), .ref (ma 23), .ref (ma 24), .ref (ma 25), .ref (ma 26), .ref (ma 27), .ref (ma 28)]
def mlen : Nat → Nat := fun k => match k with
  | 5 => 24 | 6 => 24 | 7 => 3 | 9 => 6 | 10 => 6 | 11 => 6 | 12 => 6 | 13 => 6 | 14 => 24 | 15 => 24 | 16 => 72 | 17 => 24 | 18 => 24 | 19 => 24 | 20 => 24 | 22 => 4 | 23 => 4 | 24 => 4 | 25 => 4 | 26 => 4 | 27 => 6 | 28 => 1
  | _ => 0
abbrev mki (k : Nat) : Prop := (k < 29 ∧ 5 ≤ k) ∧ (k ≠ 8 ∧ k ≠ 21)
abbrev mk9 (k : Nat) : Prop := k = 0 ∨ (5 ≤ k ∧ k < 29)
def MA (lo : Nat) (ma : Nat → Nat) : Prop := (∀ i j, mk9 i → mk9 j → ma i = ma j → i = j) ∧ ∀ k, mk9 k → lo ≤ ma k
def mown (ma : Nat → Nat) (q : Nat) : Prop := ∃ k, mk9 k ∧ q = ma k
def MR (g : EG) (ma : Nat → Nat) (σ : Sg) (u : Nat → Int64) (H : Heap) : Prop :=
  va_at g.1 vwCl (ma 0, .inr (9, mobj ma σ)) H ∧ (∀ k, mki k → va_at g.1 vwCl (ma k, .inl (g.2 1, mlen k, .inl (σ k))) H) ∧
  va_at g.1 vwCl (ma 21, .inl (g.2 0, 24, .inl (σ 21))) H ∧ va_at g.1 vwCl (ma 8, .inl (g.2 2, 3, .inr (.inl u))) H
/-- the reference now, and what has changed since the heap H0 -/
def MS (g : EG) (lo : Nat) (ma : Nat → Nat) (σ : Sg) (u : Nat → Int64) (H0 H : Heap) (locs : List Loc) : Prop :=
  MR g ma σ u H ∧ H.size = H0.size ∧ (∀ q, ¬ mown ma q → H[q]? = H0[q]?) ∧ ∀ z ∈ locs, lo ≤ z.base
theorem MS.start {g : EG} {lo : Nat} {ma : Nat → Nat} {σ : Sg} {u : Nat → Int64} {H : Heap} (h : MR g ma σ u H) : MS g lo ma σ u H H [] := ⟨h, rfl, fun _ _ => rfl, fun _ h => nomatch h⟩
theorem MS.cg {g : EG} {lo : Nat} {ma : Nat → Nat} {σ σ' : Sg} {u : Nat → Int64} {H0 H : Heap} {locs : List Loc} (h : MS g lo ma σ u H0 H locs) (e : σ = σ') : MS g lo ma σ' u H0 H locs := e ▸ h
theorem mk9_of {k : Nat} (h : mki k) : mk9 k := Or.inr ⟨h.1.2, h.1.1⟩
theorem MS.obj {g : EG} {lo : Nat} {ma : Nat → Nat} {σ : Sg} {u : Nat → Int64} {H0 H H1 : Heap} {locs : List Loc} (hA : MA lo ma) (h : MS g lo ma σ u H0 H locs) (k j : Nat) (hk : k < 5) (x : Int32) (hat : va_at g.1 vwCl (ma 0, .inr (9, (mobj ma σ).set k (.int x))) H1) (hz : H1.size = H.size) (oq : ∀ q, q ≠ ma 0 → H1[q]? = H[q]?) : MS g lo ma (up σ k 0 x) u H0 H1 (locs ++ [⟨ma 0, j⟩]) := by
  obtain ⟨⟨h1, h2, h3, h4⟩, h5, h6, h7⟩ := h
  have e0 : (mobj ma σ).set k (.int x) = mobj ma (up σ k 0 x) := by
    rcases (show k = 0 ∨ k = 1 ∨ k = 2 ∨ k = 3 ∨ k = 4 by omega) with rfl | rfl | rfl | rfl | rfl <;> rfl
  have hne : ∀ k', 5 ≤ k' → up σ k 0 x k' = σ k' := fun k' hk' => up_ne σ 0 x (by omega)
  have hap : ∀ k', 5 ≤ k' → k' < 29 → ma k' ≠ ma 0 := fun k' h1 h2 h3 => by have := hA.1 k' 0 (Or.inr ⟨h1, h2⟩) (Or.inl rfl) h3; omega
  refine ⟨⟨by rw [← e0]; exact hat, fun k' hk' => ?_, ?_, ?_⟩, hz.trans h5, fun q hq => ?_, fun z hz' => ?_⟩
  · rw [hne k' hk'.1.2]; exact (h2 k' hk').kept (oq _ (hap k' hk'.1.2 hk'.1.1))
  · rw [hne 21 (by omega)]; exact h3.kept (oq _ (hap 21 (by omega) (by omega)))
  · exact h4.kept (oq _ (hap 8 (by omega) (by omega)))
  · rw [oq q (fun e => hq ⟨0, Or.inl rfl, e⟩)]; exact h6 q hq
  · rcases List.mem_append.mp hz' with h | h
    · exact h7 z h
    · rw [List.mem_singleton.mp h]; exact hA.2 0 (Or.inl rfl)
theorem MS.row {g : EG} {lo : Nat} {ma : Nat → Nat} {σ : Sg} {u : Nat → Int64} {H0 H H1 : Heap} {locs : List Loc} (hA : MA lo ma) (h : MS g lo ma σ u H0 H locs) (k i j : Nat) (hk : mki k) (x : Int32) (hat : va_at g.1 vwCl (ma k, .inl (g.2 1, mlen k, .inl (upd (σ k) i x))) H1) (hz : H1.size = H.size) (oq : ∀ q, q ≠ ma k → H1[q]? = H[q]?) : MS g lo ma (up σ k i x) u H0 H1 (locs ++ [⟨ma k, j⟩]) := by
  obtain ⟨⟨h1, h2, h3, h4⟩, h5, h6, h7⟩ := h
  have hne : ∀ k', k' ≠ k → up σ k i x k' = σ k' := fun k' hk' => up_ne σ i x hk'
  have hap : ∀ k', mk9 k' → k' ≠ k → ma k' ≠ ma k := fun k' h1 h2 h3 => h2 (hA.1 k' k h1 (mk9_of hk) h3)
  have e0 : mobj ma (up σ k i x) = mobj ma σ := by
    simp only [mobj]
    have := hk.1.2
    rw [hne 0 (by omega), hne 1 (by omega), hne 2 (by omega), hne 3 (by omega), hne 4 (by omega)]
  refine ⟨⟨?_, fun k' hk' => ?_, ?_, ?_⟩, hz.trans h5, fun q hq => ?_, fun z hz' => ?_⟩
  · rw [e0]; exact h1.kept (oq _ (hap 0 (Or.inl rfl) (by have := hk.1.2; omega)))
  · by_cases hkk : k' = k
    · subst hkk; rw [up_same]; exact hat
    · rw [hne k' hkk]; exact (h2 k' hk').kept (oq _ (hap k' (mk9_of hk') hkk))
  · rw [hne 21 (fun e => hk.2.2 e.symm)]; exact h3.kept (oq _ (hap 21 (Or.inr (by omega)) (fun e => hk.2.2 e.symm)))
  · exact h4.kept (oq _ (hap 8 (Or.inr (by omega)) (fun e => hk.2.1 e.symm)))
  · rw [oq q (fun e => hq ⟨k, mk9_of hk, e⟩)]; exact h6 q hq
  · rcases List.mem_append.mp hz' with h | h
    · exact h7 z h
    · rw [List.mem_singleton.mp h]; exact hA.2 k (mk9_of hk)
theorem MS.row21 {g : EG} {lo : Nat} {ma : Nat → Nat} {σ : Sg} {u : Nat → Int64} {H0 H H1 : Heap} {locs : List Loc} (hA : MA lo ma) (h : MS g lo ma σ u H0 H locs) (i j : Nat) (x : Int32) (hat : va_at g.1 vwCl (ma 21, .inl (g.2 0, 24, .inl (upd (σ 21) i x))) H1) (hz : H1.size = H.size) (oq : ∀ q, q ≠ ma 21 → H1[q]? = H[q]?) : MS g lo ma (up σ 21 i x) u H0 H1 (locs ++ [⟨ma 21, j⟩]) := by
  obtain ⟨⟨h1, h2, h3, h4⟩, h5, h6, h7⟩ := h
  have hne : ∀ k', k' ≠ 21 → up σ 21 i x k' = σ k' := fun k' hk' => up_ne σ i x hk'
  have h21 : mk9 21 := Or.inr (by omega)
  have hap : ∀ k', mk9 k' → k' ≠ 21 → ma k' ≠ ma 21 := fun k' h1 h2 h3 => h2 (hA.1 k' 21 h1 h21 h3)
  refine ⟨⟨?_, fun k' hk' => ?_, ?_, ?_⟩, hz.trans h5, fun q hq => ?_, fun z hz' => ?_⟩
  · exact h1.kept (oq _ (hap 0 (Or.inl rfl) (by omega)))
  · rw [hne k' hk'.2.2]; exact (h2 k' hk').kept (oq _ (hap k' (mk9_of hk') hk'.2.2))
  · rw [up_same]; exact hat
  · exact h4.kept (oq _ (hap 8 (Or.inr (by omega)) (by omega)))
  · rw [oq q (fun e => hq ⟨21, h21, e⟩)]; exact h6 q hq
  · rcases List.mem_append.mp hz' with h | h
    · exact h7 z h
    · rw [List.mem_singleton.mp h]; exact hA.2 21 h21
theorem MS.row8 {g : EG} {lo : Nat} {ma : Nat → Nat} {σ : Sg} {u u' : Nat → Int64} {H0 H H1 : Heap} {locs : List Loc} (hA : MA lo ma) (h : MS g lo ma σ u H0 H locs) (j : Nat) (hat : va_at g.1 vwCl (ma 8, .inl (g.2 2, 3, .inr (.inl u'))) H1) (hz : H1.size = H.size) (oq : ∀ q, q ≠ ma 8 → H1[q]? = H[q]?) : MS g lo ma σ u' H0 H1 (locs ++ [⟨ma 8, j⟩]) := by
  obtain ⟨⟨h1, h2, h3, h4⟩, h5, h6, h7⟩ := h
  have h21 : mk9 8 := Or.inr (by omega)
  have hap : ∀ k', mk9 k' → k' ≠ 8 → ma k' ≠ ma 8 := fun k' h1 h2 h3 => h2 (hA.1 k' 8 h1 h21 h3)
  refine ⟨⟨?_, fun k' hk' => ?_, ?_, ?_⟩, hz.trans h5, fun q hq => ?_, fun z hz' => ?_⟩
  · exact h1.kept (oq _ (hap 0 (Or.inl rfl) (by omega)))
  · exact (h2 k' hk').kept (oq _ (hap k' (mk9_of hk') hk'.2.1))
  · exact h3.kept (oq _ (hap 21 (Or.inr (by omega)) (by omega)))
  · exact hat
  · rw [oq q (fun e => hq ⟨8, h21, e⟩)]; exact h6 q hq
  · rcases List.mem_append.mp hz' with h | h
    · exact h7 z h
    · rw [List.mem_singleton.mp h]; exact hA.2 8 h21
section MROWS
variable {p : Program} {l : Launch} {e : Env} {R : Room} {s : State} {m : MethodId} {args : Array Value} {below : List Frame} {meth : Method} {c : Code} {H H0 : Heap} {locs : List Loc} {cells slots : Nat} {Q : State → Prop}
variable {cc : ByteArray} {pc : Nat} {ls : Array Slot} {rest st0 : List Value} {g : EG} {lo : Nat} {ma : Nat → Nat} {σ : Sg} {u : Nat → Int64} {Ts : List Cond}
theorem m_get (hexec : p.tables.exec = Jvm.exec) (hb : c.code = cc) (hts : ∀ w ∈ Ts, w.before args s = true) (hin : ∀ w ∈ wsX70, w ∈ Ts) (hown : s.vm.findClass RX7 = some m.cls) (hK : KK g s) (hM : MS g lo ma σ u H0 H locs) (k : Nat) {index : Nat} (hk : k < 29) (hlink : (Cond.fieldLink RX7 index RX7 (TX7 k).2.1 (TX7 k).2.2.1).before args s = true) {v : Value} (hv : (mobj ma σ)[k]? = some v) (hdg : decode cc pc = .ok (.getfield index, 3))
    (kk : W p l e R s m args below meth c H locs cells slots Q (F0 m (pc + 3) ls (v :: rest))) : W p l e R s m args below meth c H locs cells slots Q (F0 m pc ls (.ref (ma 0) :: rest)) :=
  va_get (ref := RX7) (C := RX7) (T := TX7) (N := 29) (ci := 9) hexec hb hts hin hown hK (sp_one hM.1.1) 0 rfl rfl k hk hlink (fun x h => by
    have e : (TX7 k).1 = RX7 := by
      have : ∀ k, (TX7 k).1 = RX7 := by intro k; unfold TX7; split <;> rfl
      exact this k
    rw [e] at h; exact h) hv hdg kk
theorem m_put (hexec : p.tables.exec = Jvm.exec) (hb : c.code = cc) (hA : MA lo ma) (hts : ∀ w ∈ Ts, w.before args s = true) (hin : ∀ w ∈ wsX70, w ∈ Ts) (hown : s.vm.findClass RX7 = some m.cls) (hK : KK g s) (hM : MS g lo ma σ u H0 H locs) (k : Nat) {index : Nat} (hk : k < 5) (hlink : (Cond.fieldLink RX7 index RX7 (TX7 k).2.1 (TX7 k).2.2.1).before args s = true) {x : Int32} (hdg : decode cc pc = .ok (.putfield index, 3))
    (kk : ∀ (H1 : Heap) (locs1 : List Loc), MS g lo ma (up σ k 0 x) u H0 H1 locs1 → W p l e R s m args below meth c H1 locs1 cells slots Q (F0 m (pc + 3) ls rest)) : W p l e R s m args below meth c H locs cells slots Q (F0 m pc ls (.int x :: .ref (ma 0) :: rest)) := by
  have hfin : (TX7 k).2.2.2 = false := by rcases (show k = 0 ∨ k = 1 ∨ k = 2 ∨ k = 3 ∨ k = 4 by omega) with rfl | rfl | rfl | rfl | rfl <;> rfl
  have hd : parseFieldDescriptor (TX7 k).2.2.1 = some .int := by rcases (show k = 0 ∨ k = 1 ∨ k = 2 ∨ k = 3 ∨ k = 4 by omega) with rfl | rfl | rfl | rfl | rfl <;> decide +kernel
  have hsm : (TX7 k).1 = RX7 := by rcases (show k = 0 ∨ k = 1 ∨ k = 2 ∨ k = 3 ∨ k = 4 by omega) with rfl | rfl | rfl | rfl | rfl <;> rfl
  refine sp_put (ref := RX7) (C := RX7) (T := TX7) (N := 29) (ci := 9) (ty := .int) (v := .int x) hexec hb hts hin tyX7 tyX7_ok nmX7 hown hK hM.1.1 rfl k (by omega) hlink (fun x h => by rw [hsm] at h; exact h) hfin hd rfl rfl (by show k < 29; omega) hdg (fun H1 j h1 h2 h3 => ?_)
  exact kk H1 _ (hM.obj hA k j hk x h1 h2 h3)
theorem m_iald (hexec : p.tables.exec = Jvm.exec) (hb : c.code = cc) (hK : KK g s) (hM : MS g lo ma σ u H0 H locs) (k : Nat) (hk : mki k) {n : Nat} (hn : mlen k = n) {i x : Int32} (hin : vp_in i n) (hx : σ k (ti i) = x) (hdg : decode cc pc = .ok (.iaload, 1))
    (kk : W p l e R s m args below meth c H locs cells slots Q (F0 m (pc + 1) ls (.int x :: rest))) : W p l e R s m args below meth c H locs cells slots Q (F0 m pc ls (.int i :: .ref (ma k) :: rest)) := by
  subst hn; subst hx
  exact va_iald hexec hb hK (sp_one (hM.1.2.1 k hk)) 0 1 rfl rfl hin hdg kk
theorem m_cald (hexec : p.tables.exec = Jvm.exec) (hb : c.code = cc) (hK : KK g s) (hM : MS g lo ma σ u H0 H locs) {i x : Int32} (hin : vp_in i 24) (hx : σ 21 (ti i) = x) (hdg : decode cc pc = .ok (.caload, 1))
    (kk : W p l e R s m args below meth c H locs cells slots Q (F0 m (pc + 1) ls (.int x :: rest))) : W p l e R s m args below meth c H locs cells slots Q (F0 m pc ls (.int i :: .ref (ma 21) :: rest)) := by
  subst hx
  exact va_cald hexec hb hK (sp_one hM.1.2.2.1) 0 0 rfl rfl hin hdg kk
theorem m_lald (hexec : p.tables.exec = Jvm.exec) (hb : c.code = cc) (hK : KK g s) (hM : MS g lo ma σ u H0 H locs) {i : Int32} {x : Int64} (hin : vp_in i 3) (hx : u (ti i) = x) (hdg : decode cc pc = .ok (.laload, 1))
    (kk : W p l e R s m args below meth c H locs cells slots Q (F0 m (pc + 1) ls (.long x :: rest))) : W p l e R s m args below meth c H locs cells slots Q (F0 m pc ls (.int i :: .ref (ma 8) :: rest)) := by
  subst hx
  exact va_lald hexec hb hK (sp_one hM.1.2.2.2) 0 2 rfl rfl hin hdg kk
theorem m_iast (hexec : p.tables.exec = Jvm.exec) (hb : c.code = cc) (hA : MA lo ma) (hK : KK g s) (hM : MS g lo ma σ u H0 H locs) (k : Nat) (hk : mki k) {n : Nat} (hn : mlen k = n) {i x : Int32} (hin : vp_in i n) (hdg : decode cc pc = .ok (.iastore, 1))
    (kk : ∀ (H1 : Heap) (locs1 : List Loc), MS g lo ma (up σ k (ti i) x) u H0 H1 locs1 → W p l e R s m args below meth c H1 locs1 cells slots Q (F0 m (pc + 1) ls rest)) : W p l e R s m args below meth c H locs cells slots Q (F0 m pc ls (.int x :: .int i :: .ref (ma k) :: rest)) := by
  subst hn
  exact sp_iast hexec hb hK 1 (hM.1.2.1 k hk) rfl hin hdg (fun H1 j h1 h2 h3 => kk H1 _ (hM.row hA k _ j hk x h1 h2 h3))
theorem m_cast (hexec : p.tables.exec = Jvm.exec) (hb : c.code = cc) (hA : MA lo ma) (hK : KK g s) (hM : MS g lo ma σ u H0 H locs) {i x : Int32} (hx : vp_nar .char x = x) (hin : vp_in i 24) (hdg : decode cc pc = .ok (.castore, 1))
    (kk : ∀ (H1 : Heap) (locs1 : List Loc), MS g lo ma (up σ 21 (ti i) x) u H0 H1 locs1 → W p l e R s m args below meth c H1 locs1 cells slots Q (F0 m (pc + 1) ls rest)) : W p l e R s m args below meth c H locs cells slots Q (F0 m pc ls (.int x :: .int i :: .ref (ma 21) :: rest)) :=
  sp_cast hexec hb hK 0 hM.1.2.2.1 rfl hin hdg (fun H1 j h1 h2 h3 => kk H1 _ (hM.row21 hA _ j x (by rw [hx] at h1; exact h1) h2 h3))
theorem m_last (hexec : p.tables.exec = Jvm.exec) (hb : c.code = cc) (hA : MA lo ma) (hK : KK g s) (hM : MS g lo ma σ u H0 H locs) {i : Int32} {x : Int64} (hin : vp_in i 3) (hdg : decode cc pc = .ok (.lastore, 1))
    (kk : ∀ (H1 : Heap) (locs1 : List Loc), MS g lo ma σ (vp_updL u (ti i) x) H0 H1 locs1 → W p l e R s m args below meth c H1 locs1 cells slots Q (F0 m (pc + 1) ls rest)) : W p l e R s m args below meth c H locs cells slots Q (F0 m pc ls (.long x :: .int i :: .ref (ma 8) :: rest)) :=
  sp_last hexec hb hK 2 hM.1.2.2.2 rfl hin hdg (fun H1 j h1 h2 h3 => kk H1 _ (hM.row8 hA j h1 h2 h3))
theorem mc_ro {y : MethodName} {bytes : ByteArray} {maxL nL index n : Nat} {ret : Option FieldType} {ws ws' : List Cond} {rm : Room} {As v : List Value} {ov : Option Value} (S : CallFix p m c cc nL s args Ts RX7) (hK : KK g s) (hM : MS g lo ma σ u H0 H locs)
    (hc : Met l y ws rm (va_Pc (.ref (ma 0) :: As) (fun U => MR g ma σ u U.heap ∧ KK g U)) (QR (.returned ov)) 0 0 (fun _ => False)) (hG : GoodIn Ts (wsV RX7 index RX7 y ws)) (hw : ws = Cond.code y bytes maxL ret :: ws') (hrc : rm.cells = 0) (hrs : rm.slots = 0)
    (hd : y.cls = RX7 ∧ y.cls ≠ "java/lang/invoke/MethodHandle" ∧ y.cls ≠ "java/lang/invoke/VarHandle" ∧ (parseMethodDescriptor y.desc).map (fun d => d.parameters.length) = some n) (hR : rm.frames + 1 ≤ R.frames ∧ 8 + (maxL + 11) + rm.locals ≤ R.locals)
    (hn : As.length = n) (hsize : ls.size = nL) (hst : st0 = As.reverse ++ .ref (ma 0) :: rest) (hcat : (rest.map fun v => v.category).sum ≤ 8) (hdg : decode cc pc = .ok (.invokevirtual index, 3)) (hf : cells ≤ R.cells ∧ slots ≤ R.slots) (hov : ov.toList = v)
    (kk : W p l e R s m args below meth c H locs cells slots Q (F0 m (pc + 3) ls (v ++ rest))) : W p l e R s m args below meth c H locs cells slots Q (F0 m pc ls st0) := by
  subst hst
  exact cr_ro hov (va_runV (As := As) (rest := rest) S hc (cwV n S.2.2.2.2 hG hw hrc hrs hd hR) ⟨fun a U g9 mk q => by obtain ⟨q0, q1, q2⟩ := q; exact ⟨q0, q1, va_K.moved (u := U) (U := U.calling g9 mk a) (Vm.Alike.refl U.vm) q2⟩, va_recv hK (sp_one hM.1.1) (ci := 9) (q0 := 0) rfl rfl, fun U hU hW => ⟨rfl, by rw [hU]; exact hM.1, va_K.moved hW.alike hK⟩⟩ rfl hn hsize rfl (lv_room hcat) hdg hf) kk
theorem mc_mu {σ' : Sg} {u' : Nat → Int64} {y : MethodName} {bytes : ByteArray} {maxL nL index n : Nat} {ret : Option FieldType} {ws ws' : List Cond} {rm : Room} {As v : List Value} {ov : Option Value} (S : CallFix p m c cc nL s args Ts RX7) (hK : KK g s) (hM : MS g lo ma σ u H0 H locs)
    (hc : Met l y ws rm (va_Pc (.ref (ma 0) :: As) (fun U => MR g ma σ u U.heap ∧ KK g U)) (QM (.returned ov) (fun H1 => MR g ma σ' u' H1) (mown ma)) 0 0 (fun q => lo ≤ q)) (hG : GoodIn Ts (wsV RX7 index RX7 y ws)) (hw : ws = Cond.code y bytes maxL ret :: ws') (hrc : rm.cells = 0) (hrs : rm.slots = 0)
    (hd : y.cls = RX7 ∧ y.cls ≠ "java/lang/invoke/MethodHandle" ∧ y.cls ≠ "java/lang/invoke/VarHandle" ∧ (parseMethodDescriptor y.desc).map (fun d => d.parameters.length) = some n) (hR : rm.frames + 1 ≤ R.frames ∧ 8 + (maxL + 11) + rm.locals ≤ R.locals)
    (hn : As.length = n) (hsize : ls.size = nL) (hst : st0 = As.reverse ++ .ref (ma 0) :: rest) (hcat : (rest.map fun v => v.category).sum ≤ 8) (hdg : decode cc pc = .ok (.invokevirtual index, 3)) (hf : cells ≤ R.cells ∧ slots ≤ R.slots) (hov : ov.toList = v)
    (kk : ∀ (H1 : Heap) (locs1 : List Loc), MS g lo ma σ' u' H0 H1 locs1 → W p l e R s m args below meth c H1 locs1 cells slots Q (F0 m (pc + 3) ls (v ++ rest))) : W p l e R s m args below meth c H locs cells slots Q (F0 m pc ls st0) := by
  subst hst
  exact cr_mu hov (va_runV (As := As) (rest := rest) S hc (cwV n S.2.2.2.2 hG hw hrc hrs hd hR) ⟨fun a U g9 mk q => by obtain ⟨q0, q1, q2⟩ := q; exact ⟨q0, q1, va_K.moved (u := U) (U := U.calling g9 mk a) (Vm.Alike.refl U.vm) q2⟩, va_recv hK (sp_one hM.1.1) (ci := 9) (q0 := 0) rfl rfl, fun U hU hW => ⟨rfl, by rw [hU]; exact hM.1, va_K.moved hW.alike hK⟩⟩ rfl hn hsize rfl (lv_room hcat) hdg hf) hM.2.2.2
    (fun H1 locs1 h1 h2 h3 h4 => kk H1 locs1 ⟨h1, h2.trans hM.2.1, fun q hq => (h3 q hq).trans (hM.2.2.1 q hq), h4⟩)
theorem sc_ro {y : MethodName} {own : String} {bytes : ByteArray} {maxL nL index n : Nat} {ret : Option FieldType} {ws ws' : List Cond} {rm : Room} {As v : List Value} {ov : Option Value} (S : CallFix p m c cc nL s args Ts own)
    (hc : Met l y ws rm (va_Pc As (fun _ => True)) (QR (.returned ov)) 0 0 (fun _ => False)) (hG : GoodIn Ts (va_wsS own index y ws)) (hw : ws = Cond.code y bytes maxL ret :: ws') (hrc : rm.cells = 0) (hrs : rm.slots = 0)
    (hd : y.cls ≠ "java/lang/invoke/MethodHandle" ∧ y.cls ≠ "java/lang/invoke/VarHandle" ∧ (parseMethodDescriptor y.desc).map (fun d => d.parameters.length) = some n) (hR : rm.frames + 1 ≤ R.frames ∧ 8 + (maxL + 11) + rm.locals ≤ R.locals)
    (hn : As.length = n) (hsize : ls.size = nL) (hst : st0 = As.reverse ++ rest) (hcat : (rest.map fun v => v.category).sum ≤ 8) (hdg : decode cc pc = .ok (.invokestatic index, 3)) (hf : cells ≤ R.cells ∧ slots ≤ R.slots) (hov : ov.toList = v)
    (kk : W p l e R s m args below meth c H locs cells slots Q (F0 m (pc + 3) ls (v ++ rest))) : W p l e R s m args below meth c H locs cells slots Q (F0 m pc ls st0) := by
  subst hst
  exact cr_ro hov (va_runS (As := As) (rest := rest) S hc (va_cwS n S.2.2.2.2 hG hw hrc hrs hd hR) ⟨fun a U g9 mk q => q, fun U hU hW => ⟨rfl, trivial⟩⟩ rfl hn hsize rfl (lv_room hcat) hdg hf) kk
end MROWS
