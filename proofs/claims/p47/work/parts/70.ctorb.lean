/-! ===== constructors that make rows ===== -/
def σz : Sg := fun _ _ => 0
def uz : Nat → Int64 := fun _ => 0
theorem cN0 (v : Int32) : f_inPlan σz v = 0 := rfl
theorem INVz : INV σz := by
  have hn : ∀ k, CN σz k 0 := fun k => ⟨0, Nat.le_refl _, rfl⟩
  have h0 : ti 0 = 0 := by decide
  have hv : vp_in (0 : Int32) 21 := vin_dec (by decide +kernel)
  refine ⟨⟨⟨0, by decide, rfl⟩, ⟨0, by decide, rfl⟩, ⟨0, by decide, rfl⟩, ⟨0, by decide, rfl⟩⟩, ?_, ?_, ?_, ?_, ?_, ?_, ?_, ⟨?_, ?_, ?_, ?_⟩, ?_, ?_, ?_⟩
  · intro j h; exact absurd (show j < ti 0 from h) (by rw [h0]; exact Nat.not_lt_zero _)
  · intro j h; exact absurd (show j < ti 0 from h) (by rw [h0]; exact Nat.not_lt_zero _)
  · intro j h; exact absurd (show j < ti 0 from h) (by rw [h0]; exact Nat.not_lt_zero _)
  · intro j h; exact absurd (show j < ti 0 from h) (by rw [h0]; exact Nat.not_lt_zero _)
  · intro j h; exact absurd (show j < ti 0 from h) (by rw [h0]; exact Nat.not_lt_zero _)
  · intro j h; exact absurd (show j < ti 0 from h) (by rw [h0]; exact Nat.not_lt_zero _)
  · intro v _; rw [cN0]; decide
  · intro j _ _; rfl
  · intro j _ _; rfl
  · intro j _ _; exact ⟨rfl, rfl⟩
  · intro j _ _; exact ⟨rfl, rfl⟩
  · intro j; exact hv
  · intro j; exact hv
  · intro j h; exact absurd (show j < ti 0 from h) (by rw [h0]; exact Nat.not_lt_zero _)
def AN (U : State) : Prop := va_AO RX3 U ∧ va_AO RX1 U ∧ va_AO RX0 U ∧ va_AO RX5 U
theorem AN.moved {s U : State} (hW : s.WarmedH U.vm) (h : AN s) : AN U := ⟨h.1.moved hW.alike, h.2.1.moved hW.alike, h.2.2.1.moved hW.alike, h.2.2.2.moved hW.alike⟩
def AR (g : EG) (cnt : Nat → va_E) (b K : Nat) (H : Heap) : Prop := ∀ k, k < K → va_at g.1 vwCl (b + k, cnt k) H
theorem AR.zero {g : EG} {cnt : Nat → va_E} {b : Nat} {H : Heap} : AR g cnt b 0 H := fun _ h => absurd h (Nat.not_lt_zero _)
theorem AR.add {g : EG} {cnt : Nat → va_E} {b K : Nat} {H H1 : Heap} (h : AR g cnt b K H) (h1 : va_at g.1 vwCl (b + K, cnt K) H1) (ho : ∀ q, q < b + K → H1[q]? = H[q]?) : AR g cnt b (K + 1) H1 := fun k hk => by
  rcases Nat.lt_or_ge k K with c | c
  · exact (h k c).kept (ho _ (by omega))
  · rw [show k = K by omega]; exact h1
theorem AR.put {g : EG} {cnt : Nat → va_E} {a b K : Nat} {H H1 : Heap} (h : AR g cnt b K H) (ha : a < b) (ho : ∀ q, q ≠ a → H1[q]? = H[q]?) : AR g cnt b K H1 := fun k hk => (h k hk).kept (ho _ (by omega))
section CTORB
variable {p : Program} {l : Launch} {e : Env} {R : Room} {s : State} {m : MethodId} {args : Array Value} {below : List Frame} {meth : Method} {c : Code} {H : Heap} {locs : List Loc} {cells slots : Nat} {Q : State → Prop}
variable {cc : ByteArray} {pc : Nat} {ls : Array Slot} {rest st0 : List Value} {g : EG} {lo : Nat}
theorem sp_newI {b0 : Nat} (e0 : H.size = b0) (hexec : p.tables.exec = Jvm.exec) (hb : c.code = cc) (harr : (Cond.arrayClass .int).before args s = true) (hK : KK g s) {n : Int32} (N' : Nat) (hn : ¬ n < 0) (hN : n.toNatClampNeg = N') (hbytes : N' * componentBytes .int ≤ 536870912)
    (hcells : cells + 1 ≤ R.cells) (hslots : slots + N' ≤ R.slots) (hdg : decode cc pc = .ok (.newarray .int, 2))
    (kk : ∀ (H1 : Heap), va_at g.1 vwCl (b0, .inl (g.2 1, N', .inl (fun _ => 0))) H1 → H1.size = b0 + 1 → (∀ q, q < b0 → H1[q]? = H[q]?) →
      W p l e R s m args below meth c H1 locs (cells + 1) (slots + N') Q (F0 m (pc + 2) ls (.ref b0 :: rest))) : W p l e R s m args below meth c H locs cells slots Q (F0 m pc ls (.int n :: rest)) := by
  subst e0
  exact sp_newa (ty := .int) (atype := .int) (N' := N') (a0 := (N', .inl (fun _ => 0))) hexec hb harr rfl hK 1 rfl (fun cA h => Option.some.inj (h.symm.trans (hK.2 1 _ rfl).2)) (fun cA => rfl) hn hN hbytes hcells hslots hdg kk
theorem sp_newL {b0 : Nat} (e0 : H.size = b0) (hexec : p.tables.exec = Jvm.exec) (hb : c.code = cc) (harr : (Cond.arrayClass .long).before args s = true) (hK : KK g s) {n : Int32} (N' : Nat) (hn : ¬ n < 0) (hN : n.toNatClampNeg = N') (hbytes : N' * componentBytes .long ≤ 536870912)
    (hcells : cells + 1 ≤ R.cells) (hslots : slots + N' ≤ R.slots) (hdg : decode cc pc = .ok (.newarray .long, 2))
    (kk : ∀ (H1 : Heap), va_at g.1 vwCl (b0, .inl (g.2 2, N', .inr (.inl (fun _ => 0)))) H1 → H1.size = b0 + 1 → (∀ q, q < b0 → H1[q]? = H[q]?) →
      W p l e R s m args below meth c H1 locs (cells + 1) (slots + N') Q (F0 m (pc + 2) ls (.ref b0 :: rest))) : W p l e R s m args below meth c H locs cells slots Q (F0 m pc ls (.int n :: rest)) := by
  subst e0
  exact sp_newa (ty := .long) (atype := .long) (N' := N') (a0 := (N', .inr (.inl (fun _ => 0)))) hexec hb harr rfl hK 2 rfl (fun cA h => Option.some.inj (h.symm.trans (hK.2 2 _ rfl).2)) (fun cA => rfl) hn hN hbytes hcells hslots hdg kk
theorem sp_newC {b0 : Nat} (e0 : H.size = b0) (hexec : p.tables.exec = Jvm.exec) (hb : c.code = cc) (harr : (Cond.arrayClass .char).before args s = true) (hK : KK g s) {n : Int32} (N' : Nat) (hn : ¬ n < 0) (hN : n.toNatClampNeg = N') (hbytes : N' * componentBytes .char ≤ 536870912)
    (hcells : cells + 1 ≤ R.cells) (hslots : slots + N' ≤ R.slots) (hdg : decode cc pc = .ok (.newarray .char, 2))
    (kk : ∀ (H1 : Heap), va_at g.1 vwCl (b0, .inl (g.2 0, N', .inl (fun _ => 0))) H1 → H1.size = b0 + 1 → (∀ q, q < b0 → H1[q]? = H[q]?) →
      W p l e R s m args below meth c H1 locs (cells + 1) (slots + N') Q (F0 m (pc + 2) ls (.ref b0 :: rest))) : W p l e R s m args below meth c H locs cells slots Q (F0 m pc ls (.int n :: rest)) := by
  subst e0
  exact sp_newa (ty := .char) (atype := .char) (N' := N') (a0 := (N', .inl (fun _ => 0))) hexec hb harr rfl hK 0 rfl (fun cA h => Option.some.inj (h.symm.trans (hK.2 0 _ rfl).2)) (fun cA => rfl) hn hN hbytes hcells hslots hdg kk
theorem sp_newQ {b0 : Nat} (e0 : H.size = b0) (hexec : p.tables.exec = Jvm.exec) (hb : c.code = cc) {own C : String} {index : Nat} (hown : s.vm.findClass own = some m.cls) (hclink : (Cond.classLink own index C).before args s = true) (hover : va_AO C s) (hK : KK g s) (t0 : Nat) (ht : (tyL g.2)[t0]? = some (g.2 t0, .object C)) {n : Int32} (N' : Nat) (hn : ¬ n < 0) (hN : n.toNatClampNeg = N') (hbytes : N' * 4 ≤ 536870912)
    (hcells : cells + 1 ≤ R.cells) (hslots : slots + N' ≤ R.slots) (hdg : decode cc pc = .ok (.anewarray index, 3))
    (kk : ∀ (H1 : Heap), va_at g.1 vwCl (b0, .inl (g.2 t0, N', .inr (.inr (.inr (.inr (fun _ => none)))))) H1 → H1.size = b0 + 1 → (∀ q, q < b0 → H1[q]? = H[q]?) →
      W p l e R s m args below meth c H1 locs (cells + 1) (slots + N') Q (F0 m (pc + 3) ls (.ref b0 :: rest))) : W p l e R s m args below meth c H locs cells slots Q (F0 m pc ls (.int n :: rest)) := by
  subst e0
  subst hN
  refine W.anew hexec hb hown hclink (va_AO.use hover) rfl hdg rfl hn hbytes hcells hslots fun cA kA comp f1 f2 f3 f4 => ?_
  obtain ⟨-, kA', comp', -, -, -, g4⟩ := hK.2 t0 _ ht
  have hcA : cA = g.2 t0 := Option.some.inj (f1.symm.trans g4)
  subst hcA
  refine kk _ ?_ (Array.size_push _) (fun q hq => by rw [Array.getElem?_push, if_neg (Nat.ne_of_lt hq)])
  show (H.push _)[H.size]? = some (vp_cell _ _)
  rw [vp_cell_q, Array.getElem?_push_size, ← arrV_new]
  rfl
end CTORB
