/-! ===== the two objects at their start ===== -/
theorem xz {K i : Nat} (h : i < xcnt σz K) : K < 12 ∧ i = 0 := by
  have h0 : ti 0 = 0 := by decide
  have a1 : nR σz = 0 := h0
  have a2 : nO σz = 0 := h0
  have a3 : nL σz = 0 := h0
  have a4 : nV σz = 0 := h0
  unfold xcnt at h
  split at h
  · rw [a1] at h; exact absurd h (Nat.not_lt_zero _)
  · rw [a1] at h; exact absurd h (Nat.not_lt_zero _)
  · rw [a1] at h; exact absurd h (Nat.not_lt_zero _)
  · rw [a2] at h; exact absurd h (Nat.not_lt_zero _)
  · rw [a3] at h; exact absurd h (Nat.not_lt_zero _)
  · rw [a3] at h; exact absurd h (Nat.not_lt_zero _)
  · rw [a4] at h; exact absurd h (Nat.not_lt_zero _)
  · split at h
    · rename_i q
      exact ⟨q, by omega⟩
    · exact absurd h (Nat.not_lt_zero _)
def cntC (g : EG) : Nat → va_E := fun k => match k with
  | 0 => .inl (g.2 5, 8, .inr (.inr (.inr (.inr (fun _ => none)))))
  | 1 => .inl (g.2 4, 6, .inr (.inr (.inr (.inr (fun _ => none)))))
  | 2 => .inl (g.2 3, 24, .inr (.inr (.inr (.inr (fun _ => none)))))
  | 3 => .inl (g.2 6, 4, .inr (.inr (.inr (.inr (fun _ => none)))))
  | 4 => .inl (g.2 1, 3, .inl (fun _ => 0))
  | _ => .inl (g.2 2, 3, .inr (.inl (fun _ => 0)))
def adF (a b : Nat) : Nat → Nat → Nat := fun K _ => if K = 0 then a else b + (K - 1)
theorem refA0 (ad : Nat → Nat → Nat) (K : Nat) : refA ad K (ti 0) = fun _ => none := by
  have h0 : ti 0 = 0 := by decide
  funext j
  unfold refA
  rw [h0]
  exact if_neg (Nat.not_lt_zero _)
theorem XR_init {g : EG} {lo a b : Nat} {H : Heap} (hlo : lo ≤ a) (ha : a < b) (hat : va_at g.1 vwCl (a, .inr (8, [.ref (b + 0), .ref (b + 1), .ref (b + 2), .ref (b + 3), .ref (b + 4), .ref (b + 5), .ref (b + 6), .int 0, .int 0, .int 0, .int 0])) H) (hR : AR g (cntC g) b 6 H) (hp : va_at g.1 vwCl (b + 6, .inr (4, [.ref (b + 7 + 0), .ref (b + 7 + 1), .ref (b + 7 + 2), .ref (b + 7 + 3), .int 0, .int 0, .int 0])) H) (hq : AR g (fun _ => .inl (g.2 1, 6, .inl (fun _ => 0))) (b + 7) 4 H) : ∃ ad, XR g ad σz uz σz H ∧ XA lo ad σz ∧ ad 0 0 = a ∧ ∀ K i, i < xcnt σz K → ad K i = a ∨ (b ≤ ad K i ∧ ad K i < b + 11) := by
  refine ⟨adF a b, fun K i hi => ?_, ⟨fun K i K' i' h1 h2 e => ?_, fun K i h => ?_⟩, rfl, fun K i h => ?_⟩
  · have hK := (xz hi).1
    rcases (show K = 0 ∨ K = 1 ∨ K = 2 ∨ K = 3 ∨ K = 4 ∨ K = 5 ∨ K = 6 ∨ K = 7 ∨ K = 8 ∨ K = 9 ∨ K = 10 ∨ K = 11 by omega) with rfl | rfl | rfl | rfl | rfl | rfl | rfl | rfl | rfl | rfl | rfl | rfl
    · exact hat
    · have h := hR 0 (by decide)
      show va_at g.1 vwCl (b + 0, .inl (g.2 5, 8, .inr (.inr (.inr (.inr (refA (adF a b) 12 (ti 0))))))) H
      rw [refA0]; exact h
    · have h := hR 1 (by decide)
      show va_at g.1 vwCl (b + 1, .inl (g.2 4, 6, .inr (.inr (.inr (.inr (refA (adF a b) 15 (ti 0))))))) H
      rw [refA0]; exact h
    · have h := hR 2 (by decide)
      show va_at g.1 vwCl (b + 2, .inl (g.2 3, 24, .inr (.inr (.inr (.inr (refA (adF a b) 16 (ti 0))))))) H
      rw [refA0]; exact h
    · have h := hR 3 (by decide)
      show va_at g.1 vwCl (b + 3, .inl (g.2 6, 4, .inr (.inr (.inr (.inr (refA (adF a b) 18 (ti 0))))))) H
      rw [refA0]; exact h
    · exact hR 4 (by decide)
    · exact hR 5 (by decide)
    · exact hp
    · exact hq 0 (by decide)
    · exact hq 1 (by decide)
    · exact hq 2 (by decide)
    · exact hq 3 (by decide)
  · have q1 := xz h1
    have q2 := xz h2
    unfold adF at e
    split at e <;> split at e <;> omega
  · unfold adF
    split <;> omega
  · have q1 := xz h
    unfold adF
    split <;> omega
/-- a constructor under way: the object, K rows of KS new cells -/
def CB (g : EG) (cnt : Nat → va_E) (a lo ci : Nat) (H0 : Heap) (fs : List Value) (K KS : Nat) (H : Heap) (locs : List Loc) : Prop := va_at g.1 vwCl (a, .inr (ci, fs)) H ∧ AR g cnt H0.size K H ∧ H.size = H0.size + KS ∧ (∀ q, q < H0.size → q ≠ a → H[q]? = H0[q]?) ∧ (∀ z ∈ locs, lo ≤ z.base) ∧ a < H0.size ∧ lo ≤ a ∧ K ≤ KS
theorem CB.new {g : EG} {cnt : Nat → va_E} {a lo ci : Nat} {H0 H H1 : Heap} {fs : List Value} {K : Nat} {locs : List Loc} (h : CB g cnt a lo ci H0 fs K K H locs) (h1 : va_at g.1 vwCl (H0.size + K, cnt K) H1) (h2 : H1.size = H0.size + K + 1) (h3 : ∀ q, q < H0.size + K → H1[q]? = H[q]?) : CB g cnt a lo ci H0 fs (K + 1) (K + 1) H1 locs := by
  obtain ⟨b1, b2, b3, b4, b5, b6, b7, b8⟩ := h
  exact ⟨b1.kept (h3 a (by omega)), b2.add h1 h3, h2, fun q q1 q2 => (h3 q (by omega)).trans (b4 q q1 q2), b5, b6, b7, by omega⟩
theorem CB.more {g : EG} {cnt : Nat → va_E} {a lo ci : Nat} {H0 H H1 : Heap} {fs : List Value} {K KS KT : Nat} {locs L1 : List Loc} (h : CB g cnt a lo ci H0 fs K KS H locs) (h2 : H1.size = H0.size + KT) (hk : KS ≤ KT) (h3 : ∀ q, q < H0.size ∨ q < H0.size + K → H1[q]? = H[q]?) (h5 : ∀ z ∈ L1, lo ≤ z.base) : CB g cnt a lo ci H0 fs K KT H1 L1 := by
  obtain ⟨b1, b2, b3, b4, b5, b6, b7, b8⟩ := h
  exact ⟨b1.kept (h3 a (by omega)), fun k hk => (b2 k hk).kept (h3 _ (by omega)), h2, fun q q1 q2 => (h3 q (by omega)).trans (b4 q q1 q2), h5, b6, b7, by omega⟩
theorem CB.put {g : EG} {cnt : Nat → va_E} {a lo ci : Nat} {H0 H H1 : Heap} {fs fs' : List Value} {K KS j : Nat} {locs : List Loc} (h : CB g cnt a lo ci H0 fs K KS H locs) (h1 : va_at g.1 vwCl (a, .inr (ci, fs')) H1) (h2 : H1.size = H.size) (h3 : ∀ q, q ≠ a → H1[q]? = H[q]?) : CB g cnt a lo ci H0 fs' K KS H1 (locs ++ [⟨a, j⟩]) := by
  obtain ⟨b1, b2, b3, b4, b5, b6, b7, b8⟩ := h
  exact ⟨h1, b2.put b6 h3, h2.trans b3, fun q q1 q2 => (h3 q q2).trans (b4 q q1 q2), locA b5 b7, b6, b7, b8⟩
