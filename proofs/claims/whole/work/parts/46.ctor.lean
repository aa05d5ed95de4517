/-! ===== constructors ===== -/
def QN (o : Outcome) (P : Heap → Heap → Prop) (k a : Nat) : Array Value → State → Outcome → State → Prop := fun _ st oc t => oc = o ∧ P st.heap t.heap ∧ t.heap.size = st.heap.size + k ∧ ∀ q, q < st.heap.size → q ≠ a → t.heap[q]? = st.heap[q]?
theorem locA {lo : Nat} {locs : List Loc} {a j : Nat} (h : ∀ z ∈ locs, lo ≤ z.base) (ha : lo ≤ a) : ∀ z ∈ locs ++ [⟨a, j⟩], lo ≤ z.base := fun z hz => (List.mem_append.mp hz).elim (h z) (fun h => by rw [List.mem_singleton.mp h]; exact ha)
