/-! ===== the class: its cells by kind and number ===== -/
def xcnt (σ : Sg) : Nat → Nat := fun K => match K with
  | 12 => nR σ | 13 => nR σ | 14 => nR σ | 15 => nO σ | 16 => nL σ | 17 => nL σ | 18 => nV σ
  | K => if K < 12 then 1 else 0
def refA (ad : Nat → Nat → Nat) (K n : Nat) : Nat → Option Nat := fun j => if j < n then some (ad K j) else none
def xcont (cy : Nat → ClassId) (ad : Nat → Nat → Nat) (σ : Sg) (u : Nat → Int64) (τ : Sg) : Nat → Nat → va_E := fun K i => match K with
  | 0 => .inr (8, [.ref (ad 1 0), .ref (ad 2 0), .ref (ad 3 0), .ref (ad 4 0), .ref (ad 5 0), .ref (ad 6 0), .ref (ad 7 0), .int (σ 1 0), .int (σ 2 0), .int (σ 3 0), .int (σ 4 0)])
  | 1 => .inl (cy 5, 8, .inr (.inr (.inr (.inr (refA ad 12 (nR σ))))))
  | 2 => .inl (cy 4, 6, .inr (.inr (.inr (.inr (refA ad 15 (nO σ))))))
  | 3 => .inl (cy 3, 24, .inr (.inr (.inr (.inr (refA ad 16 (nL σ))))))
  | 4 => .inl (cy 6, 4, .inr (.inr (.inr (.inr (refA ad 18 (nV σ))))))
  | 5 => .inl (cy 1, 3, .inl (σ 7))
  | 6 => .inl (cy 2, 3, .inr (.inl u))
  | 7 => .inr (4, [.ref (ad 8 0), .ref (ad 9 0), .ref (ad 10 0), .ref (ad 11 0), .int (τ 4 0), .int (τ 5 0), .int (τ 6 0)])
  | 8 => .inl (cy 1, 6, .inl (τ 0))
  | 9 => .inl (cy 1, 6, .inl (τ 1))
  | 10 => .inl (cy 1, 6, .inl (τ 2))
  | 11 => .inl (cy 1, 6, .inl (τ 3))
  | 12 => .inr (5, [.ref (ad 13 i), .ref (ad 14 i)])
  | 13 => .inr (6, [.int (σ 5 (3 * i)), .int (σ 5 (3 * i + 1)), .int (σ 5 (3 * i + 2))])
  | 14 => .inl (cy 1, 3, .inl (fun d => σ 6 (3 * i + d)))
  | 15 => .inr (3, [.int (σ 9 i), .ref (ad 12 (ti (σ 10 i))), .int (σ 11 i), .int (σ 12 i), .int (σ 13 i)])
  | 16 => .inr (2, [.int (nI i), .ref (ad 15 (ti (σ 14 i))), .int (σ 15 i), .ref (ad 17 i), .int (σ 21 i), va_rf (if σ 21 i = 119 then none else some (ad 18 (ti (σ 17 i)))), .int (σ 18 i), .int (σ 19 i), va_rf (if σ 20 i = -1 then none else some (ad 18 (ti (σ 20 i))))])
  | 17 => .inr (6, [.int (σ 16 (3 * i)), .int (σ 16 (3 * i + 1)), .int (σ 16 (3 * i + 2))])
  | 18 => .inr (7, [.int (nI i), .int (σ 22 i), .int (σ 23 i), .int (σ 24 i), .int (σ 25 i), .int (σ 26 i)])
  | _ => .inr (0, [])
def XR (g : EG) (ad : Nat → Nat → Nat) (σ : Sg) (u : Nat → Int64) (τ : Sg) (H : Heap) : Prop := ∀ K i, i < xcnt σ K → va_at g.1 vwCl (ad K i, xcont g.2 ad σ u τ K i) H
/-- the addresses are apart, and not below lo -/
def XA (lo : Nat) (ad : Nat → Nat → Nat) (σ : Sg) : Prop := (∀ K i K' i', i < xcnt σ K → i' < xcnt σ K' → ad K i = ad K' i' → K = K' ∧ i = i') ∧ ∀ K i, i < xcnt σ K → lo ≤ ad K i
def xown (ad : Nat → Nat → Nat) (σ : Sg) (q : Nat) : Prop := ∃ K i, i < xcnt σ K ∧ q = ad K i
/-! exceptions by number -/
def en : Nat → String := fun k => match k with
  | 1 => "java/util/NoSuchElementException" | 2 => "java/lang/IllegalArgumentException" | 3 => "java/lang/IllegalStateException" | 4 => "java/lang/UnsupportedOperationException" | 5 => "java/lang/IndexOutOfBoundsException" | 6 => "java/lang/ArithmeticException"
  | _ => ""
abbrev exN : List String := ["java/lang/RuntimeException", "java/lang/Exception"]
def xat : Nat → List Cond := fun k => match k with
  | 1 => vx_at0 RX6 271 (en 1) exN | 2 => vx_at0 RX6 268 (en 2) exN | 3 => vx_at0 RX6 58 (en 3) exN | 4 => vx_at0 RX6 129 (en 4) exN | 5 => vx_at0 RX6 200 (en 5) exN | 6 => vx_at0 RX6 265 (en 6) exN
  | _ => []
/-- the words of the throws that are not good ones -/
def xwl : List Cond := (xat 1 ++ (xat 2 ++ (xat 3 ++ (xat 4 ++ (xat 5 ++ xat 6))))).filter (fun w => !goodWord w)
theorem xwl_kt : ∀ w ∈ xwl, w.keepsFace = true ∧ w.onTables = true := by decide +kernel
def XW (U : State) : Prop := ∀ w ∈ xwl, w.before #[] U = true
theorem XW.moved {s U : State} (hW : s.WarmedH U.vm) (h : XW s) : XW U := fun w hw => by
  have h1 := Cond.before_shiftedFace (State.Shifted.of_warmed hW) w (xwl_kt w hw).1 (h w hw)
  exact va_tabs (xwl_kt w hw).2 (rfl : (s.setVm U.vm).vm = U.vm) h1
theorem XW.at {s : State} {args : Array Value} (h : XW s) : ∀ w ∈ xwl, w.before args s = true := fun w hw => va_tabs (xwl_kt w hw).2 rfl (h w hw)
/-- what a call that may throw needs of the machine -/
def EV (g : EG) (lo : Nat) (U : State) : Prop := KK g U ∧ vx_Zq Bundle.tN "UNASSIGNED_STACK" Bundle.steD (fun q => lo ≤ q) U U.heap ∧ vx_Zq Bundle.tN "SUPPRESSED_SENTINEL" Bundle.listD (fun q => lo ≤ q) U U.heap ∧ XW U
theorem EV.at {g : EG} {lo : Nat} {s U : State} (h : EV g lo s) (hW : s.WarmedH U.vm) (hq : ∀ q, q < lo → U.heap[q]? = s.heap[q]?) : EV g lo U :=
  ⟨va_K.moved hW.alike h.1, (vx_Zq.moved hW.alike h.2.1).kept (fun q _ h2 => hq q (Nat.not_le.mp h2)), (vx_Zq.moved hW.alike h.2.2.1).kept (fun q _ h2 => hq q (Nat.not_le.mp h2)), h.2.2.2.moved hW⟩
theorem EV.calling {g : EG} {lo : Nat} {U : State} (h : EV g lo U) (g9 : JFrame) (mk : MethodId) (a : Array Value) : EV g lo (U.calling g9 mk a) :=
  h.at (s := U) (U := U.calling g9 mk a) (State.WarmedH.refl U) (fun _ _ => rfl)
def QX (ex : Nat) (o : Outcome) : Array Value → State → Outcome → State → Prop := fun _ st oc t => ex = 0 ∧ oc = o ∧ t.heap = st.heap
def XX (ex : Nat) : String → State → State → Prop := fun E st t => ex ≠ 0 ∧ E = en ex ∧ st.heap.size ≤ t.heap.size ∧ ∀ q, q < st.heap.size → t.heap[q]? = st.heap[q]?
section XROWS
variable {p : Program} {l : Launch} {e : Env} {R : Room} {s : State} {m : MethodId} {args : Array Value} {below : List Frame} {meth : Method} {c : Code} {H : Heap} {locs : List Loc} {cells slots : Nat} {Q : State → Prop}
variable {cc : ByteArray} {pc : Nat} {ls : Array Slot} {rest st0 : List Value} {g : EG} {lo : Nat} {ad : Nat → Nat → Nat} {σ τ : Sg} {u : Nat → Int64} {Ts : List Cond}
theorem x_get (hexec : p.tables.exec = Jvm.exec) (hb : c.code = cc) {own C : String} {T : u_T} {N ci index K i : Nat} {fs : List Value} (hts : ∀ w ∈ Ts, w.before args s = true) (hin : ∀ w ∈ u_ws C T N, w ∈ Ts) (hown : s.vm.findClass own = some m.cls) (hK : KK g s) (hX : XR g ad σ u τ H) (hi : i < xcnt σ K) (k : Nat) (hc : xcont g.2 ad σ u τ K i = .inr (ci, fs)) (hcl : vwCl[ci]? = some (C, T, N)) (hk : k < N) (hT : (T k).1 = C) (hlink : (Cond.fieldLink own index C (T k).2.1 (T k).2.2.1).before args s = true) {v : Value} (hv : fs[k]? = some v) (hdg : decode cc pc = .ok (.getfield index, 3))
    (kk : W p l e R s m args below meth c H locs cells slots Q (F0 m (pc + 3) ls (v :: rest))) : W p l e R s m args below meth c H locs cells slots Q (F0 m pc ls (.ref (ad K i) :: rest)) :=
  va_get (ref := C) hexec hb hts hin hown hK (sp_one (hX K i hi)) 0 (by rw [hc]; rfl) hcl k hk hlink (fun x h => by rw [hT] at h; exact h) hv hdg kk
theorem x_iald (hexec : p.tables.exec = Jvm.exec) (hb : c.code = cc) (hK : KK g s) (hX : XR g ad σ u τ H) {K i n : Nat} {f : Nat → Int32} (hi : i < xcnt σ K) (hc : xcont g.2 ad σ u τ K i = .inl (g.2 1, n, .inl f)) {j x : Int32} (hin : vp_in j n) (hx : f (ti j) = x) (hdg : decode cc pc = .ok (.iaload, 1))
    (kk : W p l e R s m args below meth c H locs cells slots Q (F0 m (pc + 1) ls (.int x :: rest))) : W p l e R s m args below meth c H locs cells slots Q (F0 m pc ls (.int j :: .ref (ad K i) :: rest)) := by
  subst hx
  exact va_iald hexec hb hK (sp_one (hX K i hi)) 0 1 (by rw [hc]; rfl) rfl hin hdg kk
theorem x_lald (hexec : p.tables.exec = Jvm.exec) (hb : c.code = cc) (hK : KK g s) (hX : XR g ad σ u τ H) {j : Int32} {x : Int64} (hin : vp_in j 3) (hx : u (ti j) = x) (hdg : decode cc pc = .ok (.laload, 1))
    (kk : W p l e R s m args below meth c H locs cells slots Q (F0 m (pc + 1) ls (.long x :: rest))) : W p l e R s m args below meth c H locs cells slots Q (F0 m pc ls (.int j :: .ref (ad 6 0) :: rest)) := by
  subst hx
  exact va_lald hexec hb hK (sp_one (hX 6 0 (show 0 < 1 from Nat.zero_lt_one))) 0 2 rfl rfl hin hdg kk
theorem x_aald (hexec : p.tables.exec = Jvm.exec) (hb : c.code = cc) (hK : KK g s) (hX : XR g ad σ u τ H) {K t0 n : Nat} {C : String} {f : Nat → Option Nat} (hi : 0 < xcnt σ K) (ht : (tyL g.2)[t0]? = some (g.2 t0, .object C)) (hc : xcont g.2 ad σ u τ K 0 = .inl (g.2 t0, n, .inr (.inr (.inr (.inr f))))) {j : Int32} (hin : vp_in j n) {v : Value} (hv : va_rf (f (ti j)) = v) (hdg : decode cc pc = .ok (.aaload, 1))
    (kk : W p l e R s m args below meth c H locs cells slots Q (F0 m (pc + 1) ls (v :: rest))) : W p l e R s m args below meth c H locs cells slots Q (F0 m pc ls (.int j :: .ref (ad K 0) :: rest)) := by
  subst hv
  exact va_aldq hexec hb hK (sp_one (hX K 0 hi)) 0 t0 (by rw [hc]; rfl) ht hin hdg kk
theorem x_alen (hexec : p.tables.exec = Jvm.exec) (hb : c.code = cc) (hK : KK g s) (hX : XR g ad σ u τ H) {K t0 n : Nat} {ty : FieldType} {f : _} (hi : 0 < xcnt σ K) (ht : (tyL g.2)[t0]? = some (g.2 t0, ty)) (hc : xcont g.2 ad σ u τ K 0 = .inl (g.2 t0, n, f)) {v : Int32} (hv : Int32.ofNat n = v) (hdg : decode cc pc = .ok (.arraylength, 1))
    (kk : W p l e R s m args below meth c H locs cells slots Q (F0 m (pc + 1) ls (.int v :: rest))) : W p l e R s m args below meth c H locs cells slots Q (F0 m pc ls (.ref (ad K 0) :: rest)) :=
  va_alen hexec hb hK (sp_one (hX K 0 hi)) 0 t0 (x := (n, f)) (by rw [hc]; rfl) ht hv hdg kk
theorem refA_in {K n j : Nat} (h : j < n) : va_rf (refA ad K n j) = .ref (ad K j) := by simp [refA, h, va_rf]
theorem refA_no {K n j : Nat} (h : ¬ j < n) : va_rf (refA ad K n j) = .null := by simp [refA, h, va_rf]
theorem opt_no {P : Prop} [Decidable P] {a : Nat} (h : P) : va_rf (if P then none else some a) = .null := by rw [if_pos h]; rfl
theorem opt_in {P : Prop} [Decidable P] {a : Nat} (h : ¬ P) : va_rf (if P then none else some a) = .ref a := by rw [if_neg h]; rfl
theorem x_acmp_ne {a b : Nat} (hexec : p.tables.exec = Jvm.exec) (hb : c.code = cc) {off : Int} {tgt : Nat} (hdg : decode cc pc = .ok (.if_acmp .ne off, 3)) (ht : (pc : Int) + off = (tgt : Int))
    (kt : ¬ a = b → W p l e R s m args below meth c H locs cells slots Q (F0 m tgt ls rest)) (kf : a = b → W p l e R s m args below meth c H locs cells slots Q (F0 m (pc + 3) ls rest)) : W p l e R s m args below meth c H locs cells slots Q (F0 m pc ls (.ref b :: .ref a :: rest)) :=
  lv_acmp_ne (rx := some a) (ry := some b) hexec hb hdg ht (fun h => kt (fun e => h (by rw [e]))) (fun h => kf (Option.some.inj h))
theorem x_acmp_eq {a b : Nat} (hexec : p.tables.exec = Jvm.exec) (hb : c.code = cc) {off : Int} {tgt : Nat} (hdg : decode cc pc = .ok (.if_acmp .eq off, 3)) (ht : (pc : Int) + off = (tgt : Int))
    (kt : a = b → W p l e R s m args below meth c H locs cells slots Q (F0 m tgt ls rest)) (kf : ¬ a = b → W p l e R s m args below meth c H locs cells slots Q (F0 m (pc + 3) ls rest)) : W p l e R s m args below meth c H locs cells slots Q (F0 m pc ls (.ref b :: .ref a :: rest)) :=
  lv_acmp_eq (rx := some a) (ry := some b) hexec hb hdg ht (fun h => kt (Option.some.inj h)) (fun h => kf (fun e => h (by rw [e])))
theorem x_acmp_neN {b : Nat} (hexec : p.tables.exec = Jvm.exec) (hb : c.code = cc) {off : Int} {tgt : Nat} (hdg : decode cc pc = .ok (.if_acmp .ne off, 3)) (ht : (pc : Int) + off = (tgt : Int))
    (kt : W p l e R s m args below meth c H locs cells slots Q (F0 m tgt ls rest)) : W p l e R s m args below meth c H locs cells slots Q (F0 m pc ls (.ref b :: .null :: rest)) :=
  lv_acmp_ne (rx := none) (ry := some b) hexec hb hdg ht (fun _ => kt) (fun h => nomatch h)
/-- a call that leaves the heap as it is, on one of the class's objects -/
theorem xc_ro {own : String} {y : MethodName} {bytes : ByteArray} {maxL nL index n K i ci : Nat} {fs : List Value} {r : vw_C} {ret : Option FieldType} {ws ws' : List Cond} {rm : Room} {As v : List Value} {ov : Option Value} (S : CallFix p m c cc nL s args Ts own) (hK : KK g s) (hX : XR g ad σ u τ H) (hi : i < xcnt σ K) (hcn : xcont g.2 ad σ u τ K i = .inr (ci, fs)) (hcl : vwCl[ci]? = some r)
    (hc : Met l y ws rm (va_Pc (.ref (ad K i) :: As) (fun U => XR g ad σ u τ U.heap ∧ KK g U)) (QR (.returned ov)) 0 0 (fun _ => False)) (hG : GoodIn Ts (wsV own index r.1 y ws)) (hw : ws = Cond.code y bytes maxL ret :: ws') (hrc : rm.cells = 0) (hrs : rm.slots = 0)
    (hd : y.cls = r.1 ∧ y.cls ≠ "java/lang/invoke/MethodHandle" ∧ y.cls ≠ "java/lang/invoke/VarHandle" ∧ (parseMethodDescriptor y.desc).map (fun d => d.parameters.length) = some n) (hR : rm.frames + 1 ≤ R.frames ∧ 8 + (maxL + 11) + rm.locals ≤ R.locals)
    (hn : As.length = n) (hsize : ls.size = nL) (hst : st0 = As.reverse ++ .ref (ad K i) :: rest) (hcat : (rest.map fun v => v.category).sum ≤ 8) (hdg : decode cc pc = .ok (.invokevirtual index, 3)) (hf : cells ≤ R.cells ∧ slots ≤ R.slots) (hov : ov.toList = v)
    (kk : W p l e R s m args below meth c H locs cells slots Q (F0 m (pc + 3) ls (v ++ rest))) : W p l e R s m args below meth c H locs cells slots Q (F0 m pc ls st0) := by
  subst hst
  exact cr_ro hov (va_runV (As := As) (rest := rest) S hc (cwV n S.2.2.2.2 hG hw hrc hrs hd hR) ⟨fun a U g9 mk q => by obtain ⟨q0, q1, q2⟩ := q; exact ⟨q0, q1, va_K.moved (u := U) (U := U.calling g9 mk a) (Vm.Alike.refl U.vm) q2⟩, va_recv hK (sp_one (hX K i hi)) (q0 := 0) hcl (by rw [hcn]; rfl), fun U hU hW => ⟨rfl, by rw [hU]; exact hX, va_K.moved hW.alike hK⟩⟩ rfl hn hsize rfl (lv_room hcat) hdg hf) kk
/-- what comes behind a call that may throw -/
theorem xc_thr {ex exC mc ms mcC msC : Nat} {o : Outcome} {ov : Option Value} {Qc : Array Value → State → Outcome → State → Prop} {free : Addr → Prop} {a0 : Array Value} (ht : ∀ x ∈ c.exceptionTable.toList, False) (hlocks : meth.locks = false) (hfit : cells + mc ≤ mcC ∧ slots + ms ≤ msC) (hex : ex ≠ 0 → exC = ex)
    (hr : vx_Run p l e R s m args below meth c s.heap [] cells slots mc ms (F0 m pc ls st0) rest (QX ex (.returned ov) a0) (XX ex) (fun _ => False))
    (kk : ex = 0 → W p l e R s m args below meth c s.heap [] (cells + mc) (slots + ms) (vx_MQ below Qc (XX exC) args s mcC msC free) (F0 m (pc + 3) ls (ov.toList ++ rest))) :
    W p l e R s m args below meth c s.heap [] cells slots (vx_MQ below Qc (XX exC) args s mcC msC free) (F0 m pc ls st0) := by
  have nl : ∀ {L : List Loc}, (∀ z ∈ L, False) → L = [] := by
    intro L hL
    cases L with
    | nil => rfl
    | cons z r => exact (hL z List.mem_cons_self).elim
  intro T hT X
  rcases hr T hT X with ⟨v, st₀, t, T', L, h0, X', hL, e1, e2, ⟨h9, hq, hh⟩, st⟩ | ⟨q, st₀, t, T', L, E, ce, h0, X', hL, e1, e2, ⟨h9, rfl, hz, ho⟩, hce, hcv, hcl, st⟩
  · cases hq
    have hL0 := nl hL
    subst hL0
    obtain ⟨t2, a1, b1⟩ := kk h9 T' (by rw [e1, hh, h0]) X'
    exact ⟨t2, st t2 a1, b1⟩
  · have hL0 := nl hL
    subst hL0
    have hx := hex h9
    subst hx
    obtain ⟨t2, a1, b1⟩ := vx_out (H := T'.heap) (locs := []) (E := en exC) (ce := ce) (Qc := Qc) (XC := XX exC) (free := free) (pc := pc) (ls := ls) (rest := rest) (fun x hx => (ht x hx).elim) hlocks (by rw [e1]; exact hce) hcv hcl (fun t3 h3 _ => ⟨h9, rfl, by rw [h3, e1, ← h0]; exact hz, fun q hq => by rw [h3, e1, ← h0]; exact ho q (by rw [h0]; exact hq)⟩) (fun z hz => nomatch hz) hfit.1 hfit.2 T' rfl X'
    exact ⟨t2, st.trans a1, b1⟩
theorem xc_v {own : String} {y : MethodName} {bytes : ByteArray} {maxL nL index n : Nat} {ex exC mc ms mcC msC : Nat} {ov : Option Value} {ret : Option FieldType} {ws ws' : List Cond} {rm : Room} {As v : List Value} {Qc : Array Value → State → Outcome → State → Prop} {free : Addr → Prop} (S : CallFix p m c cc nL s args Ts own) (hE : EV g lo s) (hX : XR g ad σ u τ s.heap) (ht : ∀ x ∈ c.exceptionTable.toList, False) (hlocks : meth.locks = false) (hex : ex ≠ 0 → exC = ex)
    (hc : vx_Met l y ws rm (va_Pc (.ref (ad 0 0) :: As) (fun U => XR g ad σ u τ U.heap ∧ EV g lo U)) (QX ex (.returned ov)) (XX ex) mc ms (fun _ => False)) (hG : GoodIn Ts (wsV own index RX6 y ws)) (hw : ws = Cond.code y bytes maxL ret :: ws') (hrc : rm.cells = mc) (hrs : rm.slots = ms)
    (hd : y.cls = RX6 ∧ y.cls ≠ "java/lang/invoke/MethodHandle" ∧ y.cls ≠ "java/lang/invoke/VarHandle" ∧ (parseMethodDescriptor y.desc).map (fun d => d.parameters.length) = some n) (hR : rm.frames + 1 ≤ R.frames ∧ 8 + (maxL + 11) + rm.locals ≤ R.locals)
    (hn : As.length = n) (hsize : ls.size = nL) (hst : st0 = As.reverse ++ .ref (ad 0 0) :: rest) (hcat : (rest.map fun v => v.category).sum ≤ 8) (hdg : decode cc pc = .ok (.invokevirtual index, 3)) (hf : cells + mc ≤ R.cells ∧ slots + ms ≤ R.slots) (hfit : cells + mc ≤ mcC ∧ slots + ms ≤ msC) (hov : ex = 0 → ov.toList = v)
    (kk : ex = 0 → W p l e R s m args below meth c s.heap [] (cells + mc) (slots + ms) (vx_MQ below Qc (XX exC) args s mcC msC free) (F0 m (pc + 3) ls (v ++ rest))) : W p l e R s m args below meth c s.heap [] cells slots (vx_MQ below Qc (XX exC) args s mcC msC free) (F0 m pc ls st0) := by
  subst hst
  refine xc_thr (o := .returned ov) ht hlocks hfit hex (vx_runV (As := As) (rest := rest) S hc (cwV n S.2.2.2.2 hG hw hrc hrs hd hR) ⟨fun a U g9 mk q => by obtain ⟨q0, q1, q2⟩ := q; exact ⟨q0, q1, q2.calling g9 mk a⟩, va_recv hE.1 (sp_one (hX 0 0 (show 0 < 1 from Nat.zero_lt_one))) (ci := 8) (q0 := 0) rfl rfl, fun U hU hW => ⟨rfl, by rw [hU]; exact hX, hE.at hW (fun q _ => by rw [hU])⟩⟩ rfl hn hsize rfl (lv_room hcat) hdg hf) (fun h => ?_)
  rw [hov h]; exact kk h
theorem xc_s {own : String} {y : MethodName} {bytes : ByteArray} {maxL nL index n : Nat} {ex exC mc ms mcC msC : Nat} {ov : Option Value} {ret : Option FieldType} {ws ws' : List Cond} {rm : Room} {As v : List Value} {Qc : Array Value → State → Outcome → State → Prop} {free : Addr → Prop} (S : CallFix p m c cc nL s args Ts own) (hE : EV g lo s) (ht : ∀ x ∈ c.exceptionTable.toList, False) (hlocks : meth.locks = false) (hex : ex ≠ 0 → exC = ex)
    (hc : vx_Met l y ws rm (va_Pc As (fun U => EV g lo U)) (QX ex (.returned ov)) (XX ex) mc ms (fun _ => False)) (hG : GoodIn Ts (va_wsS own index y ws)) (hw : ws = Cond.code y bytes maxL ret :: ws') (hrc : rm.cells = mc) (hrs : rm.slots = ms)
    (hd : y.cls ≠ "java/lang/invoke/MethodHandle" ∧ y.cls ≠ "java/lang/invoke/VarHandle" ∧ (parseMethodDescriptor y.desc).map (fun d => d.parameters.length) = some n) (hR : rm.frames + 1 ≤ R.frames ∧ 8 + (maxL + 11) + rm.locals ≤ R.locals)
    (hn : As.length = n) (hsize : ls.size = nL) (hst : st0 = As.reverse ++ rest) (hcat : (rest.map fun v => v.category).sum ≤ 8) (hdg : decode cc pc = .ok (.invokestatic index, 3)) (hf : cells + mc ≤ R.cells ∧ slots + ms ≤ R.slots) (hfit : cells + mc ≤ mcC ∧ slots + ms ≤ msC) (hov : ex = 0 → ov.toList = v)
    (kk : ex = 0 → W p l e R s m args below meth c s.heap [] (cells + mc) (slots + ms) (vx_MQ below Qc (XX exC) args s mcC msC free) (F0 m (pc + 3) ls (v ++ rest))) : W p l e R s m args below meth c s.heap [] cells slots (vx_MQ below Qc (XX exC) args s mcC msC free) (F0 m pc ls st0) := by
  subst hst
  refine xc_thr (o := .returned ov) ht hlocks hfit hex (vx_runS (As := As) (rest := rest) S hc (va_cwS n S.2.2.2.2 hG hw hrc hrs hd hR) ⟨fun a U g9 mk q => by obtain ⟨q0, q1⟩ := q; exact ⟨q0, q1.calling g9 mk a⟩, fun U hU hW => ⟨rfl, hE.at hW (fun q _ => by rw [hU])⟩⟩ rfl hn hsize rfl (lv_room hcat) hdg hf) (fun h => ?_)
  rw [hov h]; exact kk h
/-- throw new E() out of the method -/
theorem x_throw {ik ic k9 mc ms : Nat} {exC : Nat} {Qc : Array Value → State → Outcome → State → Prop} {free : Addr → Prop} (hexec : p.tables.exec = Jvm.exec) (hb : c.code = cc) (hst : l.stackTraces = false) (hown : s.vm.findClass RX6 = some m.cls) (hE : EV g lo s) (ht : ∀ x ∈ c.exceptionTable.toList, False) (hlocks : meth.locks = false) (hsize : ls.size = c.maxLocals) (hlo : ∀ q, lo ≤ q → q < s.heap.size → True)
    (hcls : Bundle.fit (en k9) = true) (hk : (Cond.classLink RX6 ik (en k9)).before args s = true) (hini : (Cond.initialized (en k9)).before args s = true) (hat : ∀ w ∈ (vx_at0 RX6 ic (en k9) exN).filter goodWord, w.before args s = true) (hbad : ∀ w ∈ (vx_at0 RX6 ic (en k9) exN).filter (fun w => !goodWord w), w ∈ xwl)
    (hgood : ∀ w ∈ Cond.classLink RX6 ik (en k9) :: Cond.initialized (en k9) :: vx_at0 RX6 ic (en k9) exN, vx_ot w = true) (hk9 : k9 ≠ 0) (hex : exC = k9)
    (d0 : decode cc pc = .ok (.new ik, 3)) (d3 : decode cc (pc + 3) = .ok (.dup, 1)) (d4 : decode cc (pc + 4) = .ok (.invokespecial ic, 3)) (d7 : decode cc (pc + 7) = .ok (.athrow, 1))
    (hRf : 5 < R.frames) (hRl : (rest.map fun v => v.category).sum + 81 ≤ R.locals) (hRc : cells + 1 ≤ R.cells) (hRs : slots + 6 ≤ R.slots) (hc : cells + 1 ≤ mc) (hs : slots + 6 ≤ ms) :
    W p l e R s m args below meth c s.heap [] cells slots (vx_MQ below Qc (XX exC) args s mc ms free) (F0 m pc ls rest) := by
  subst hex
  exact vx_throw0 (names := exN) (own := RX6) (cls := en exC) (A := fun q => lo ≤ q) hexec hb hst hown hcls (by decide) hk hini (vx_hat hat hbad hE.2.2.2.at) hgood hE.2.1 hE.2.2.1 va_S.rf hsize d0 d3 d4 d7 (fun x hx => (ht x hx).elim) (by show 5 < R.frames; exact hRf) (by show _ + 81 ≤ R.locals; exact hRl) hRc hRs hlocks
    (fun t hA hz ho => ⟨hk9, rfl, hz, ho⟩) (fun z hz => nomatch hz) hc hs
end XROWS
