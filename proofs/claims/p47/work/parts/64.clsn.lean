/-! ===== the class's plan: calls of nest mates, its rows, bits ===== -/
def KN (g : EG) (U : State) : Prop := KK g U ∧ va_Nw (.methodLinkNest RX2 92 yX6_isTooDark RX6) U ∧ va_Nw (.methodLinkNest RX2 96 yX6_isBarred RX6) U
theorem KN.moved {g : EG} {s U : State} (hW : s.WarmedH U.vm) (h : KN g s) : KN g U := ⟨va_K.moved hW.alike h.1, va_Nw.warmM hW h.2.1, va_Nw.warmM hW h.2.2⟩
theorem KN.calling {g : EG} {U : State} (h : KN g U) (g9 : JFrame) (mk : MethodId) (a : Array Value) : KN g (U.calling g9 mk a) := KN.moved (s := U) (U := U.calling g9 mk a) (State.WarmedH.refl U) h
section XNROWS
variable {p : Program} {l : Launch} {e : Env} {R : Room} {s : State} {m : MethodId} {args : Array Value} {below : List Frame} {meth : Method} {c : Code} {H : Heap} {locs : List Loc} {cells slots : Nat} {Q : State → Prop}
variable {cc : ByteArray} {pc : Nat} {ls : Array Slot} {rest st0 : List Value} {g : EG} {lo : Nat} {ad : Nat → Nat → Nat} {σ τ : Sg} {u : Nat → Int64} {Ts : List Cond}
theorem xn_ro {own : String} {y : MethodName} {bytes : ByteArray} {maxL nL index n K i ci : Nat} {fs : List Value} {r : vw_C} {ret : Option FieldType} {ws ws' : List Cond} {rm : Room} {As v : List Value} {ov : Option Value} (S : CallFix p m c cc nL s args Ts own) (hN : KN g s) (hX : XR g ad σ u τ H) (hi : i < xcnt σ K) (hcn : xcont g.2 ad σ u τ K i = .inr (ci, fs)) (hcl : vwCl[ci]? = some r)
    (hc : Met l y ws rm (va_Pc (.ref (ad K i) :: As) (fun U => XR g ad σ u τ U.heap ∧ KN g U)) (QR (.returned ov)) 0 0 (fun _ => False)) (hG : GoodIn Ts (wsV own index r.1 y ws)) (hw : ws = Cond.code y bytes maxL ret :: ws') (hrc : rm.cells = 0) (hrs : rm.slots = 0)
    (hd : y.cls = r.1 ∧ y.cls ≠ "java/lang/invoke/MethodHandle" ∧ y.cls ≠ "java/lang/invoke/VarHandle" ∧ (parseMethodDescriptor y.desc).map (fun d => d.parameters.length) = some n) (hR : rm.frames + 1 ≤ R.frames ∧ 8 + (maxL + 11) + rm.locals ≤ R.locals)
    (hn : As.length = n) (hsize : ls.size = nL) (hst : st0 = As.reverse ++ .ref (ad K i) :: rest) (hcat : (rest.map fun v => v.category).sum ≤ 8) (hdg : decode cc pc = .ok (.invokevirtual index, 3)) (hf : cells ≤ R.cells ∧ slots ≤ R.slots) (hov : ov.toList = v)
    (kk : W p l e R s m args below meth c H locs cells slots Q (F0 m (pc + 3) ls (v ++ rest))) : W p l e R s m args below meth c H locs cells slots Q (F0 m pc ls st0) := by
  subst hst
  exact cr_ro hov (va_runV (As := As) (rest := rest) S hc (cwV n S.2.2.2.2 hG hw hrc hrs hd hR) ⟨fun a U g9 mk q => by obtain ⟨q0, q1, q2⟩ := q; exact ⟨q0, q1, q2.calling g9 mk a⟩, va_recv hN.1 (sp_one (hX K i hi)) (q0 := 0) hcl (by rw [hcn]; rfl), fun U hU hW => ⟨rfl, by rw [hU]; exact hX, hN.moved hW⟩⟩ rfl hn hsize rfl (lv_room hcat) hdg hf) kk
theorem xsn_ro {y : MethodName} {own : String} {bytes : ByteArray} {maxL nL index n : Nat} {ret : Option FieldType} {ws ws' : List Cond} {rm : Room} {As v : List Value} {ov : Option Value} (S : CallFix p m c cc nL s args Ts own) (hN : KN g s) (hX : XR g ad σ u τ H)
    (hc : Met l y ws rm (va_Pc As (fun U => XR g ad σ u τ U.heap ∧ KN g U)) (QR (.returned ov)) 0 0 (fun _ => False)) (hG : GoodIn Ts (va_wsS own index y ws)) (hw : ws = Cond.code y bytes maxL ret :: ws') (hrc : rm.cells = 0) (hrs : rm.slots = 0)
    (hd : y.cls ≠ "java/lang/invoke/MethodHandle" ∧ y.cls ≠ "java/lang/invoke/VarHandle" ∧ (parseMethodDescriptor y.desc).map (fun d => d.parameters.length) = some n) (hR : rm.frames + 1 ≤ R.frames ∧ 8 + (maxL + 11) + rm.locals ≤ R.locals)
    (hn : As.length = n) (hsize : ls.size = nL) (hst : st0 = As.reverse ++ rest) (hcat : (rest.map fun v => v.category).sum ≤ 8) (hdg : decode cc pc = .ok (.invokestatic index, 3)) (hf : cells ≤ R.cells ∧ slots ≤ R.slots) (hov : ov.toList = v)
    (kk : W p l e R s m args below meth c H locs cells slots Q (F0 m (pc + 3) ls (v ++ rest))) : W p l e R s m args below meth c H locs cells slots Q (F0 m pc ls st0) := by
  subst hst
  exact cr_ro hov (va_runS (As := As) (rest := rest) S hc (va_cwS n S.2.2.2.2 hG hw hrc hrs hd hR) ⟨fun a U g9 mk q => by obtain ⟨q0, q1, q2⟩ := q; exact ⟨q0, q1, q2.calling g9 mk a⟩, fun U hU hW => ⟨rfl, by rw [hU]; exact hX, hN.moved hW⟩⟩ rfl hn hsize rfl (lv_room hcat) hdg hf) kk
theorem sc_roN {y : MethodName} {own host : String} {bytes : ByteArray} {maxL nL index n : Nat} {ret : Option FieldType} {ws ws' : List Cond} {rm : Room} {As v : List Value} {ov : Option Value} (S : CallFix p m c cc nL s args Ts own)
    (hc : Met l y ws rm (va_Pc As (fun _ => True)) (QR (.returned ov)) 0 0 (fun _ => False)) (hG : GoodIn Ts ws) (hw : ws = Cond.code y bytes maxL ret :: ws') (hrc : rm.cells = 0) (hrs : rm.slots = 0) (hl : va_Nw (.methodLinkNest own index y host) s) (hini : (Cond.initialized y.cls).before args s = true) (hs9 : (Cond.static y).before args s = true)
    (hd : y.cls ≠ "java/lang/invoke/MethodHandle" ∧ y.cls ≠ "java/lang/invoke/VarHandle" ∧ (parseMethodDescriptor y.desc).map (fun d => d.parameters.length) = some n) (hR : rm.frames + 1 ≤ R.frames ∧ 8 + (maxL + 11) + rm.locals ≤ R.locals)
    (hn : As.length = n) (hsize : ls.size = nL) (hst : st0 = As.reverse ++ rest) (hcat : (rest.map fun v => v.category).sum ≤ 8) (hdg : decode cc pc = .ok (.invokestatic index, 3)) (hf : cells ≤ R.cells ∧ slots ≤ R.slots) (hov : ov.toList = v)
    (kk : W p l e R s m args below meth c H locs cells slots Q (F0 m (pc + 3) ls (v ++ rest))) : W p l e R s m args below meth c H locs cells slots Q (F0 m pc ls st0) := by
  subst hst
  exact cr_ro hov (va_runSN (As := As) (rest := rest) S hc ⟨va_cnB n S.2.2.2.2 hG hw hrc hrs hl hini hd hR, hs9, trivial⟩ ⟨fun a U g9 mk q => q, fun U hU hW => ⟨rfl, trivial⟩⟩ rfl hn hsize rfl (lv_room hcat) hdg hf) kk
end XNROWS
def PL (τ : Sg) (N : Nat) (lt cu : Nat → Int32) (wr : Nat → Nat) : Prop := (N ≤ 6 ∧ τ 4 0 = nI N) ∧ ∀ i, i < N → τ 1 i = lt i ∧ τ 2 i = cu i ∧ τ 3 i = nI (wr i) ∧ wr i ≤ 100
set_option maxRecDepth 100000 in
theorem bit_all : (List.range 64).all (fun m => (List.range 6).all (fun i => (decide ((nI m &&& ((1 : Int32) <<< (nI i &&& 31))) = 0) == !(m.testBit i)) && (decide ((nI m ||| ((1 : Int32) <<< (nI i &&& 31))) = nI (m ||| (1 <<< i))) && decide (m ||| (1 <<< i) < 64)))) = true := by decide +kernel
theorem bit_at {m i : Nat} (hm : m < 64) (hi : i < 6) : (decide ((nI m &&& ((1 : Int32) <<< (nI i &&& 31))) = 0) == !(m.testBit i)) = true ∧ (nI m ||| ((1 : Int32) <<< (nI i &&& 31))) = nI (m ||| (1 <<< i)) ∧ m ||| (1 <<< i) < 64 := by
  have h1 := (List.all_eq_true.mp ((List.all_eq_true.mp bit_all) m (List.mem_range.mpr hm))) i (List.mem_range.mpr hi)
  rw [Bool.and_eq_true, Bool.and_eq_true] at h1
  exact ⟨h1.1, of_decide_eq_true h1.2.1, of_decide_eq_true h1.2.2⟩
theorem bit_on {m i : Nat} (hm : m < 64) (hi : i < 6) (h : ¬ (nI m &&& ((1 : Int32) <<< (nI i &&& 31))) = 0) : m.testBit i = true := by
  have h1 := (bit_at hm hi).1
  rw [decide_eq_false h] at h1
  cases e : m.testBit i with
  | true => rfl
  | false => rw [e] at h1; exact absurd h1 (by decide)
theorem bit_off {m i : Nat} (hm : m < 64) (hi : i < 6) (h : (nI m &&& ((1 : Int32) <<< (nI i &&& 31))) = 0) : ¬ m.testBit i = true := by
  have h1 := (bit_at hm hi).1
  rw [decide_eq_true h] at h1
  intro e
  rw [e] at h1
  exact absurd h1 (by decide)
set_option maxRecDepth 100000 in
theorem bit_one : ∀ i, i < 6 → ((1 : Int32) <<< (nI i &&& 31)) = nI (0 ||| (1 <<< i)) ∧ 0 ||| (1 <<< i) < 64 := by decide +kernel
theorem minI {a b : Nat} (ha : a < 2 ^ 31) (hb : b < 2 ^ 31) : nI (min a b) = if nI b < nI a then nI b else nI a := by
  by_cases c : b < a
  · rw [if_pos ((nI_ltI hb ha).mpr c), Nat.min_eq_right (by omega)]
  · rw [if_neg (fun q => c ((nI_ltI hb ha).mp q)), Nat.min_eq_left (by omega)]
theorem hsm_s (wr : Nat → Nat) (j : Nat) : hsm wr (List.range (j + 1)) = hsm wr (List.range j) + wr j := by
  unfold hsm
  rw [List.range_succ, List.map_append, List.sum_append]
  simp
def bgF (lt cu : Nat → Int32) (N : Nat) (l w : Int32) (i e : Nat) : Nat := mins e ((ords N (N - 1) (0 ||| (1 <<< i))).map (fun p => clC lt cu l w (i :: p)))
theorem bg_c1 {lt cu : Nat → Int32} {N : Nat} {l w : Int32} {i e : Nat} (h : ndC lt cu l w i) : fwF lt cu N (N - 1) (0 ||| (1 <<< i)) (lt i) (-1) 1 e = bgF lt cu N l w i e := by
  unfold fwF bgF
  congr 1
  refine List.map_congr_left (fun p _ => ?_)
  simp only [clC, if_pos h]
  omega
theorem bg_c0 {lt cu : Nat → Int32} {N : Nat} {l w : Int32} {i e : Nat} (h : ¬ ndC lt cu l w i) : fwF lt cu N (N - 1) (0 ||| (1 <<< i)) (lt i) w 0 e = bgF lt cu N l w i e := by
  unfold fwF bgF
  congr 1
  refine List.map_congr_left (fun p _ => ?_)
  simp only [clC, if_neg h]
  omega
theorem bg_gt {lt cu : Nat → Int32} {N : Nat} {l w : Int32} {i M : Nat} (h : M < bgF lt cu N l w i (M + 1)) : ∀ p, p ∈ ords N (N - 1) (0 ||| (1 <<< i)) → M < clC lt cu l w (i :: p) := fun p hp => Nat.lt_of_lt_of_le h (mins_mem _ (List.mem_map.mpr ⟨p, hp, rfl⟩))
theorem bg_le {lt cu : Nat → Int32} {N : Nat} {l w : Int32} {i M : Nat} (h : ¬ M < bgF lt cu N l w i (M + 1)) : ∃ p, p ∈ ords N (N - 1) (0 ||| (1 <<< i)) ∧ clC lt cu l w (i :: p) ≤ M := by
  unfold bgF at h
  rcases mins_or ((ords N (N - 1) (0 ||| (1 <<< i))).map (fun p => clC lt cu l w (i :: p))) (M + 1) with q | q
  · omega
  · obtain ⟨p, hp, e⟩ := List.mem_map.mp q
    exact ⟨p, hp, by omega⟩
