/-! ===== the orders of a plan: the next one, all of them, the least ===== -/
def lsI (a b : Int32) : Bool := decide (a < b)
def lsN (a b : Nat) : Bool := decide (a < b)
def swG {α : Type} (f : Nat → α) (a b : Nat) : Nat → α := fun i => if i = b then f a else if i = a then f b else f i
def pvG {α : Type} (lt : α → α → Bool) (f : Nat → α) : Nat → Nat
  | 0 => 0
  | m + 1 => if lt (f (m + 1)) (f m) = true then pvG lt f m else m + 1
def otG {α : Type} (lt : α → α → Bool) (f : Nat → α) (x : α) : Nat → Nat
  | 0 => 0
  | j + 1 => if lt (f (j + 1)) x = true then otG lt f x j else j + 1
def rvG {α : Type} : Nat → (Nat → α) → Nat → Nat → (Nat → α)
  | 0, f, _, _ => f
  | n + 1, f, a, b => if a < b then rvG n (swG f a b) (a + 1) (b - 1) else f
def nxG {α : Type} (lt : α → α → Bool) (f : Nat → α) (N : Nat) : Nat → α :=
  rvG N (swG f (pvG lt f (N - 1) - 1) (otG lt f (f (pvG lt f (N - 1) - 1)) (N - 1))) (pvG lt f (N - 1)) (N - 1)
theorem pvG_le {α : Type} (lt : α → α → Bool) (f : Nat → α) : ∀ m, pvG lt f m ≤ m
  | 0 => Nat.le_refl _
  | m + 1 => by
    have := pvG_le lt f m
    unfold pvG
    split <;> omega
theorem otG_le {α : Type} (lt : α → α → Bool) (f : Nat → α) (x : α) : ∀ m, otG lt f x m ≤ m
  | 0 => Nat.le_refl _
  | m + 1 => by
    have := otG_le lt f x m
    unfold otG
    split <;> omega
theorem pvG_no {α : Type} {lt : α → α → Bool} {f : Nat → α} : ∀ {m}, pvG lt f m ≠ 0 → lt (f (pvG lt f m)) (f (pvG lt f m - 1)) ≠ true
  | 0, h => absurd rfl h
  | m + 1, h => by
    by_cases c : lt (f (m + 1)) (f m) = true
    · have e : pvG lt f (m + 1) = pvG lt f m := by simp only [pvG, if_pos c]
      rw [e] at h ⊢
      exact pvG_no h
    · have e : pvG lt f (m + 1) = m + 1 := by simp only [pvG, if_neg c]
      rw [e]
      exact c
def RelP (N : Nat) (b : Nat → Int32) (e : Nat → Int32) (r : Nat → Int32) (f : Nat → Nat) : Prop := (∀ i, i < N → f i < N) ∧ ∀ i, r i = if i < N then b (f i) else e i
theorem RelP.sw {N : Nat} {b e r : Nat → Int32} {f : Nat → Nat} (h : RelP N b e r f) {x y : Nat} (hx : x < N) (hy : y < N) : RelP N b e (swG r x y) (swG f x y) := by
  obtain ⟨h1, h2⟩ := h
  refine ⟨fun i hi => ?_, fun i => ?_⟩
  · unfold swG
    split
    · exact h1 x hx
    · split
      · exact h1 y hy
      · exact h1 i hi
  · by_cases c1 : i = y
    · subst c1; simp [swG, h2, hx, hy]
    · by_cases c2 : i = x
      · subst c2; simp [swG, c1, h2, hx, hy]
      · simp [swG, c1, c2, h2]
theorem RelP.rv {N : Nat} {b e : Nat → Int32} : ∀ (n : Nat) {r : Nat → Int32} {f : Nat → Nat}, RelP N b e r f → ∀ {x y : Nat}, y < N → RelP N b e (rvG n r x y) (rvG n f x y)
  | 0, _, _, h, _, _, _ => h
  | n + 1, r, f, h, x, y, hy => by
    by_cases c : x < y
    · simp only [rvG, if_pos c]
      exact RelP.rv n (h.sw (by omega) hy) (by omega)
    · simp only [rvG, if_neg c]
      exact h
theorem RelP.pv {N : Nat} {b e r : Nat → Int32} {f : Nat → Nat} (hm : ∀ i j, i < N → j < N → lsI (b i) (b j) = lsN i j) (h : RelP N b e r f) : ∀ m, m < N → pvG lsI r m = pvG lsN f m
  | 0, _ => rfl
  | m + 1, h1 => by
    have h3 : m < N := by omega
    have e : lsI (r (m + 1)) (r m) = lsN (f (m + 1)) (f m) := by
      rw [h.2 (m + 1), h.2 m, if_pos h1, if_pos h3]
      exact hm _ _ (h.1 _ h1) (h.1 _ h3)
    simp only [pvG, e, RelP.pv hm h m h3]
theorem RelP.ot {N : Nat} {b e r : Nat → Int32} {f : Nat → Nat} (hm : ∀ i j, i < N → j < N → lsI (b i) (b j) = lsN i j) (h : RelP N b e r f) {z : Nat} (hz : z < N) : ∀ m, m < N → otG lsI r (b z) m = otG lsN f z m
  | 0, _ => rfl
  | m + 1, h1 => by
    have h3 : m < N := by omega
    have e : lsI (r (m + 1)) (b z) = lsN (f (m + 1)) z := by
      rw [h.2 (m + 1), if_pos h1]
      exact hm _ _ (h.1 _ h1) hz
    simp only [otG, e, RelP.ot hm h hz m h3]
theorem RelP.nx {N : Nat} {b e r : Nat → Int32} {f : Nat → Nat} (hm : ∀ i j, i < N → j < N → lsI (b i) (b j) = lsN i j) (h : RelP N b e r f) (h0 : pvG lsN f (N - 1) ≠ 0) : RelP N b e (nxG lsI r N) (nxG lsN f N) := by
  have hp := pvG_le lsN f (N - 1)
  have hN : N - 1 < N := by omega
  have e1 := h.pv hm (N - 1) hN
  unfold nxG
  rw [e1]
  have hk : pvG lsN f (N - 1) - 1 < N := by omega
  have e2 : r (pvG lsN f (N - 1) - 1) = b (f (pvG lsN f (N - 1) - 1)) := by rw [h.2 (pvG lsN f (N - 1) - 1), if_pos hk]
  rw [e2, h.ot hm (h.1 _ hk) (N - 1) hN]
  have ho := otG_le lsN f (f (pvG lsN f (N - 1) - 1)) (N - 1)
  exact (h.sw hk (by omega)).rv N hN
/-! all orders -/
def ords (N : Nat) : Nat → Nat → List (List Nat)
  | 0, _ => [[]]
  | f + 1, mask => (List.range N).flatMap fun i => if mask.testBit i = true then [] else (ords N f (mask ||| (1 <<< i))).map (List.cons i)
def pF (p : List Nat) : Nat → Nat := fun i => p.getD i 0
def chkO (N : Nat) : List (List Nat) → Bool
  | [] => true
  | p :: L => (p.length == N) && p.all (fun i => decide (i < N)) && p.isPerm (List.range N) && (match L with
    | [] => pvG lsN (pF p) (N - 1) == 0
    | q :: _ => (pvG lsN (pF p) (N - 1) != 0) && (List.range N).all (fun i => nxG lsN (pF p) N i == pF q i) && decide (pF p 0 ≤ pF q 0)) && chkO N L
def chkH (N : Nat) : Bool := (match ords N N 0 with | [] => false | p :: _ => p == List.range N) && chkO N (ords N N 0)
set_option maxRecDepth 100000 in
theorem chk_all : (List.range 7).all (fun N => chkH N) = true := by decide +kernel
theorem chk_at {N : Nat} (h : N ≤ 6) : chkH N = true := (List.all_eq_true.mp chk_all) N (List.mem_range.mpr (by omega))
theorem chk_head {N : Nat} (h : N ≤ 6) : ∃ B, ords N N 0 = List.range N :: B := by
  have h1 := chk_at h
  unfold chkH at h1
  rw [Bool.and_eq_true] at h1
  have h2 := h1.1
  revert h2
  cases e : ords N N 0 with
  | nil => intro h2; exact absurd h2 (by simp)
  | cons p B => intro h2; exact ⟨B, by rw [eq_of_beq h2]⟩
theorem chk_ords {N : Nat} (h : N ≤ 6) : chkO N (ords N N 0) = true := by
  have h1 := chk_at h
  unfold chkH at h1
  rw [Bool.and_eq_true] at h1
  exact h1.2
theorem chkO_tl {N : Nat} {p : List Nat} {L : List (List Nat)} (h : chkO N (p :: L) = true) : chkO N L = true := by
  change (_ && chkO N L) = true at h
  rw [Bool.and_eq_true] at h
  exact h.2
theorem chkO_hd {N : Nat} {p : List Nat} {L : List (List Nat)} (h : chkO N (p :: L) = true) : p.length = N ∧ (∀ i, i ∈ p → i < N) ∧ p.Perm (List.range N) := by
  change ((((p.length == N) && p.all (fun i => decide (i < N)) && p.isPerm (List.range N)) && _) && chkO N L) = true at h
  rw [Bool.and_eq_true, Bool.and_eq_true, Bool.and_eq_true, Bool.and_eq_true] at h
  obtain ⟨⟨⟨⟨h1, h2⟩, h3⟩, -⟩, -⟩ := h
  exact ⟨eq_of_beq h1, fun i hi => of_decide_eq_true ((List.all_eq_true.mp h2) i hi), List.isPerm_iff.mp h3⟩
theorem chkO_end {N : Nat} {p : List Nat} (h : chkO N [p] = true) : pvG lsN (pF p) (N - 1) = 0 := by
  rw [chkO] at h
  simp only [Bool.and_eq_true] at h
  exact eq_of_beq h.1.2
theorem chkO_nx {N : Nat} {p q : List Nat} {L : List (List Nat)} (h : chkO N (p :: q :: L) = true) : pvG lsN (pF p) (N - 1) ≠ 0 ∧ (∀ i, i < N → nxG lsN (pF p) N i = pF q i) ∧ pF p 0 ≤ pF q 0 := by
  rw [chkO] at h
  simp only [Bool.and_eq_true] at h
  obtain ⟨⟨-, ⟨h1, h2⟩, h3⟩, -⟩ := h
  refine ⟨fun e => ?_, fun i hi => eq_of_beq ((List.all_eq_true.mp h2) i (List.mem_range.mpr hi)), of_decide_eq_true h3⟩
  rw [e] at h1
  exact absurd h1 (by decide)
theorem pF_lt {N : Nat} {p : List Nat} (h1 : p.length = N) (h2 : ∀ i, i ∈ p → i < N) : ∀ i, i < N → pF p i < N := fun i hi => by
  have hi' : i < p.length := by omega
  unfold pF
  rw [List.getD_eq_getElem?_getD, List.getElem?_eq_getElem hi']
  exact h2 _ (List.getElem_mem hi')
theorem chkO_all {N : Nat} : ∀ {L : List (List Nat)}, chkO N L = true → ∀ p, p ∈ L → p.length = N ∧ (∀ i, i ∈ p → i < N) ∧ p.Perm (List.range N)
  | [], _, _, h => nomatch h
  | p :: L, h, q, hq => by
    rcases List.mem_cons.mp hq with rfl | hq
    · exact chkO_hd h
    · exact chkO_all (chkO_tl h) q hq
theorem chkO_up {N : Nat} : ∀ {L : List (List Nat)} {p : List Nat}, chkO N (p :: L) = true → ∀ q, q ∈ L → pF p 0 ≤ pF q 0
  | [], _, _, _, h => nomatch h
  | r :: L, p, h, q, hq => by
    have h1 := (chkO_nx h).2.2
    rcases List.mem_cons.mp hq with rfl | hq
    · exact h1
    · exact Nat.le_trans h1 (chkO_up (chkO_tl h) q hq)
/-! the least of all -/
def bsP (cost : List Nat → Nat) (s : Nat × Nat) (q : List Nat) : Nat × Nat := if cost q < s.1 then (cost q, pF q 0) else s
def bsL (cost : List Nat → Nat) : List (List Nat) → Nat × Nat
  | [] => (0, 0)
  | p :: B => B.foldl (bsP cost) (cost p, pF p 0)
theorem bs_inv (cost : List Nat → Nat) : ∀ (B A : List (List Nat)) (m x : Nat), (∀ q, q ∈ A → ∀ r, r ∈ B → pF q 0 ≤ pF r 0) → (∀ i, B.Pairwise (fun q r => pF q i ≤ pF r i) ∨ i ≠ 0) → (∀ q, q ∈ A → m ≤ cost q) → (∃ q, q ∈ A ∧ cost q = m ∧ pF q 0 = x) → (∀ q, q ∈ A → cost q = m → x ≤ pF q 0) → (∀ q, q ∈ A ++ B → (B.foldl (bsP cost) (m, x)).1 ≤ cost q) ∧ (∃ q, q ∈ A ++ B ∧ cost q = (B.foldl (bsP cost) (m, x)).1 ∧ pF q 0 = (B.foldl (bsP cost) (m, x)).2) ∧ (∀ q, q ∈ A ++ B → cost q = (B.foldl (bsP cost) (m, x)).1 → (B.foldl (bsP cost) (m, x)).2 ≤ pF q 0)
  | [], A, m, x, _, _, h1, h2, h3 => by
    rw [List.append_nil]
    exact ⟨h1, h2, h3⟩
  | r :: B, A, m, x, hs, hp, h1, h2, h3 => by
    have hpw : (r :: B).Pairwise (fun q r => pF q 0 ≤ pF r 0) := (hp 0).elim id (fun h => absurd rfl h)
    have e : A ++ r :: B = (A ++ [r]) ++ B := by simp
    have hs' : ∀ q, q ∈ A ++ [r] → ∀ z, z ∈ B → pF q 0 ≤ pF z 0 := fun q hq z hz => by
      rcases List.mem_append.mp hq with h | h
      · exact hs q h z (List.mem_cons_of_mem _ hz)
      · rw [List.mem_singleton.mp h]; exact (List.pairwise_cons.mp hpw).1 z hz
    have hp' : ∀ i, B.Pairwise (fun q r => pF q i ≤ pF r i) ∨ i ≠ 0 := fun i => (hp i).imp (fun h => (List.pairwise_cons.mp h).2) id
    rw [e]
    by_cases c : cost r < m
    · have e2 : (r :: B).foldl (bsP cost) (m, x) = B.foldl (bsP cost) (cost r, pF r 0) := by simp [bsP, c]
      rw [e2]
      refine bs_inv cost B (A ++ [r]) _ _ hs' hp' (fun q hq => ?_) ⟨r, by simp, rfl, rfl⟩ (fun q hq hc => ?_)
      · rcases List.mem_append.mp hq with h | h
        · have := h1 q h; omega
        · rw [List.mem_singleton.mp h]; exact Nat.le_refl _
      · rcases List.mem_append.mp hq with h | h
        · have := h1 q h; omega
        · rw [List.mem_singleton.mp h]; exact Nat.le_refl _
    · have e2 : (r :: B).foldl (bsP cost) (m, x) = B.foldl (bsP cost) (m, x) := by simp [bsP, c]
      rw [e2]
      obtain ⟨z, z1, z2, z3⟩ := h2
      refine bs_inv cost B (A ++ [r]) _ _ hs' hp' (fun q hq => ?_) ⟨z, List.mem_append_left _ z1, z2, z3⟩ (fun q hq hc => ?_)
      · rcases List.mem_append.mp hq with h | h
        · exact h1 q h
        · rw [List.mem_singleton.mp h]; omega
      · rcases List.mem_append.mp hq with h | h
        · exact h3 q h hc
        · rw [List.mem_singleton.mp h, ← z3]; exact hs z z1 r List.mem_cons_self
theorem chkO_pw {N : Nat} : ∀ {L : List (List Nat)}, chkO N L = true → L.Pairwise (fun q r => pF q 0 ≤ pF r 0)
  | [], _ => List.Pairwise.nil
  | p :: L, h => List.pairwise_cons.mpr ⟨chkO_up h, chkO_pw (chkO_tl h)⟩
theorem bsL_spec (cost : List Nat → Nat) {N : Nat} (hN : N ≤ 6) : (∀ q, q ∈ ords N N 0 → (bsL cost (ords N N 0)).1 ≤ cost q) ∧ (∃ q, q ∈ ords N N 0 ∧ cost q = (bsL cost (ords N N 0)).1 ∧ pF q 0 = (bsL cost (ords N N 0)).2) ∧ (∀ q, q ∈ ords N N 0 → cost q = (bsL cost (ords N N 0)).1 → (bsL cost (ords N N 0)).2 ≤ pF q 0) := by
  have hc := chk_ords hN
  obtain ⟨B, e⟩ := chk_head hN
  rw [e] at hc ⊢
  have hpw := chkO_pw hc
  exact bs_inv cost B [List.range N] (cost (List.range N)) (pF (List.range N) 0) (fun q hq r hr => by rw [List.mem_singleton.mp hq]; exact (List.pairwise_cons.mp hpw).1 r hr) (fun i => by
    by_cases h : i = 0
    · subst h; exact Or.inl (List.pairwise_cons.mp hpw).2
    · exact Or.inr h) (fun q hq => by rw [List.mem_singleton.mp hq]; exact Nat.le_refl _) ⟨_, List.mem_singleton.mpr rfl, rfl, rfl⟩ (fun q hq _ => by rw [List.mem_singleton.mp hq]; exact Nat.le_refl _)
/-! cleanings and hours of an order -/
def hsm (hr : Nat → Nat) (p : List Nat) : Nat := (p.map hr).sum
abbrev ndC (lt cu : Nat → Int32) (l w : Int32) (i : Nat) : Prop := (¬ l = -1 ∧ l < lt i) ∨ (¬ w = -1 ∧ ¬ w = cu i)
def clC (lt cu : Nat → Int32) : Int32 → Int32 → List Nat → Nat
  | _, _, [] => 0
  | l, w, i :: p => if ndC lt cu l w i then clC lt cu (lt i) (-1) p + 1 else clC lt cu (lt i) w p
theorem clC_le (lt cu : Nat → Int32) : ∀ (p : List Nat) (l w : Int32), clC lt cu l w p ≤ p.length
  | [], _, _ => Nat.le_refl _
  | i :: p, l, w => by
    have h1 := clC_le lt cu p (lt i) (-1)
    have h2 := clC_le lt cu p (lt i) w
    unfold clC
    rw [List.length_cons]
    split <;> omega
def mins (b : Nat) (L : List Nat) : Nat := L.foldl min b
theorem mins_app (b : Nat) (A B : List Nat) : mins b (A ++ B) = mins (mins b A) B := List.foldl_append
theorem mins_le : ∀ (L : List Nat) (b : Nat), mins b L ≤ b
  | [], b => Nat.le_refl _
  | x :: L, b => Nat.le_trans (mins_le L (min b x)) (Nat.min_le_left _ _)
theorem mins_mem : ∀ {L : List Nat} (b : Nat) {x : Nat}, x ∈ L → mins b L ≤ x
  | y :: L, b, x, h => by
    rcases List.mem_cons.mp h with rfl | h
    · exact Nat.le_trans (mins_le L (min b x)) (Nat.min_le_right _ _)
    · exact mins_mem (L := L) (min b y) h
theorem mins_or : ∀ (L : List Nat) (b : Nat), mins b L = b ∨ mins b L ∈ L
  | [], b => Or.inl rfl
  | x :: L, b => by
    rcases mins_or L (min b x) with h | h
    · rcases Nat.le_total b x with q | q
      · exact Or.inl (h.trans (Nat.min_eq_left q))
      · refine Or.inr ?_
        have h2 : mins b (x :: L) = x := h.trans (Nat.min_eq_right q)
        rw [h2]; exact List.mem_cons_self
    · exact Or.inr (List.mem_cons_of_mem _ h)
theorem mins_eq {L : List Nat} {b m : Nat} (h1 : m ≤ b) (h2 : ∀ x, x ∈ L → m ≤ x) (h3 : m = b ∨ m ∈ L) : mins b L = m := by
  have a1 := mins_le L b
  rcases mins_or L b with h | h
  · rcases h3 with q | q
    · omega
    · have := mins_mem b q; omega
  · have a2 := h2 _ h
    rcases h3 with q | q
    · omega
    · have := mins_mem b q; omega
theorem mins_min : ∀ (L : List Nat) (a b : Nat), a ≤ b → mins a L = min a (mins b L)
  | [], a, b, h => (Nat.min_eq_left h).symm
  | x :: L, a, b, h => by
    have h1 := mins_min L (min a x) (min b x) (by omega)
    have h2 := mins_le L (min b x)
    show mins (min a x) L = min a (mins (min b x) L)
    rw [h1]
    omega
theorem mins_ge {L : List Nat} {b : Nat} (h : ∀ x, x ∈ L → b ≤ x) : mins b L = b := mins_eq (Nat.le_refl _) h (Or.inl rfl)
def ordU (N f mask k : Nat) : List (List Nat) := (List.range k).flatMap fun i => if mask.testBit i = true then [] else (ords N f (mask ||| (1 <<< i))).map (List.cons i)
theorem ordU_N (N f mask : Nat) : ordU N f mask N = ords N (f + 1) mask := rfl
theorem ordU_s (N f mask k : Nat) : ordU N f mask (k + 1) = ordU N f mask k ++ (if mask.testBit k = true then [] else (ords N f (mask ||| (1 <<< k))).map (List.cons k)) := by
  unfold ordU
  rw [List.range_succ, List.flatMap_append]
  simp
section COST
variable (lt cu : Nat → Int32) (hr : Nat → Nat) (N : Nat)
def fwF (f mask : Nat) (l w : Int32) (c best : Nat) : Nat := mins best ((ords N f mask).map fun p => c + clC lt cu l w p)
def fwU (f mask : Nat) (l w : Int32) (c best k : Nat) : Nat := mins best ((ordU N f mask k).map fun p => c + clC lt cu l w p)
def laF (f mask : Nat) (l w : Int32) (h : Nat) : Nat := mins 1000000 ((ords N f mask).map fun p => h + (hsm hr p + 3 * clC lt cu l w p))
def laU (f mask : Nat) (l w : Int32) (h k : Nat) : Nat := mins 1000000 ((ordU N f mask k).map fun p => h + (hsm hr p + 3 * clC lt cu l w p))
variable {f mask c best k h : Nat} {l w : Int32}
theorem fw_stop (hb : best ≤ c) : fwF lt cu N f mask l w c best = best := mins_ge (fun x hx => by
  obtain ⟨p, -, rfl⟩ := List.mem_map.mp hx
  exact Nat.le_trans hb (Nat.le_add_right _ _))
theorem fw_zero (hb : c < best) : fwF lt cu N 0 mask l w c best = c := Nat.min_eq_right (Nat.le_of_lt hb)
theorem fwU_0 : fwU lt cu N f mask l w c best 0 = best := rfl
theorem fwU_N : fwU lt cu N f mask l w c best N = fwF lt cu N (f + 1) mask l w c best := rfl
theorem fw_set (hk : mask.testBit k = true) : fwU lt cu N f mask l w c best (k + 1) = fwU lt cu N f mask l w c best k := by
  unfold fwU
  rw [ordU_s, if_pos hk, List.append_nil]
theorem fw_c1 (hk : ¬ mask.testBit k = true) (hn : ndC lt cu l w k) : fwU lt cu N f mask l w c best (k + 1) = fwF lt cu N f (mask ||| (1 <<< k)) (lt k) (-1) (c + 1) (fwU lt cu N f mask l w c best k) := by
  unfold fwU fwF
  rw [ordU_s, if_neg hk, List.map_append, mins_app, List.map_map]
  congr 1
  refine List.map_congr_left (fun p _ => ?_)
  simp only [Function.comp, clC, if_pos hn]
  omega
theorem fw_c0 (hk : ¬ mask.testBit k = true) (hn : ¬ ndC lt cu l w k) : fwU lt cu N f mask l w c best (k + 1) = fwF lt cu N f (mask ||| (1 <<< k)) (lt k) w c (fwU lt cu N f mask l w c best k) := by
  unfold fwU fwF
  rw [ordU_s, if_neg hk, List.map_append, mins_app, List.map_map]
  congr 1
  refine List.map_congr_left (fun p _ => ?_)
  simp only [Function.comp, clC, if_neg hn]
theorem fw_le : fwF lt cu N f mask l w c best ≤ best := mins_le _ _
theorem fwU_le : fwU lt cu N f mask l w c best k ≤ best := mins_le _ _
theorem la_le : laF lt cu hr N f mask l w h ≤ 1000000 := mins_le _ _
theorem laU_le : laU lt cu hr N f mask l w h k ≤ 1000000 := mins_le _ _
theorem la_zero (hb : h ≤ 1000000) : laF lt cu hr N 0 mask l w h = h := Nat.min_eq_right hb
theorem laU_0 : laU lt cu hr N f mask l w h 0 = 1000000 := rfl
theorem laU_N : laU lt cu hr N f mask l w h N = laF lt cu hr N (f + 1) mask l w h := rfl
theorem la_set (hk : mask.testBit k = true) : laU lt cu hr N f mask l w h (k + 1) = laU lt cu hr N f mask l w h k := by
  unfold laU
  rw [ordU_s, if_pos hk, List.append_nil]
theorem la_c1 (hk : ¬ mask.testBit k = true) (hn : ndC lt cu l w k) : laU lt cu hr N f mask l w h (k + 1) = min (laU lt cu hr N f mask l w h k) (laF lt cu hr N f (mask ||| (1 <<< k)) (lt k) (-1) (h + hr k + 3)) := by
  have hle := laU_le lt cu hr N (f := f) (mask := mask) (k := k) (h := h) (l := l) (w := w)
  unfold laF
  rw [← mins_min _ _ _ hle]
  unfold laU
  rw [ordU_s, if_neg hk, List.map_append, mins_app, List.map_map]
  congr 1
  refine List.map_congr_left (fun p _ => ?_)
  simp only [Function.comp, clC, if_pos hn, hsm, List.map_cons, List.sum_cons]
  omega
theorem la_c0 (hk : ¬ mask.testBit k = true) (hn : ¬ ndC lt cu l w k) : laU lt cu hr N f mask l w h (k + 1) = min (laU lt cu hr N f mask l w h k) (laF lt cu hr N f (mask ||| (1 <<< k)) (lt k) w (h + hr k + 0)) := by
  have hle := laU_le lt cu hr N (f := f) (mask := mask) (k := k) (h := h) (l := l) (w := w)
  unfold laF
  rw [← mins_min _ _ _ hle]
  unfold laU
  rw [ordU_s, if_neg hk, List.map_append, mins_app, List.map_map]
  congr 1
  refine List.map_congr_left (fun p _ => ?_)
  simp only [Function.comp, clC, if_neg hn, hsm, List.map_cons, List.sum_cons]
  omega
end COST
/-! the reference's least and the class's two ways -/
section BOTH
variable (lt cu : Nat → Int32) (hr : Nat → Nat)
def costP (l w : Int32) (p : List Nat) : Nat := hsm hr p + 3 * clC lt cu l w p
theorem hsm_all {N : Nat} (hN : N ≤ 6) {p : List Nat} (hp : p ∈ ords N N 0) : hsm hr p = hsm hr (List.range N) := ((chkO_all (chk_ords hN) p hp).2.2.map hr).sum_nat
theorem minC_spec {N : Nat} (hN : N ≤ 6) (l w : Int32) : (∀ p, p ∈ ords N N 0 → fwF lt cu N N 0 l w 0 (N + 1) ≤ clC lt cu l w p) ∧ ∃ p, p ∈ ords N N 0 ∧ clC lt cu l w p = fwF lt cu N N 0 l w 0 (N + 1) := by
  have h1 : ∀ p, p ∈ ords N N 0 → fwF lt cu N N 0 l w 0 (N + 1) ≤ clC lt cu l w p := fun p hp => by
    have := mins_mem (N + 1) (List.mem_map_of_mem (f := fun p => 0 + clC lt cu l w p) hp)
    simp only [Nat.zero_add] at this
    unfold fwF
    simp only [Nat.zero_add]
    exact this
  refine ⟨h1, ?_⟩
  rcases mins_or ((ords N N 0).map fun p => 0 + clC lt cu l w p) (N + 1) with h | h
  · obtain ⟨B, e⟩ := chk_head hN
    have h2 := h1 (List.range N) (by rw [e]; exact List.mem_cons_self)
    have h3 := clC_le lt cu (List.range N) l w
    rw [List.length_range] at h3
    unfold fwF at h2
    omega
  · obtain ⟨p, hp, e⟩ := List.mem_map.mp h
    refine ⟨p, hp, ?_⟩
    unfold fwF
    rw [← e]
    omega
theorem least_cl {N : Nat} (hN : N ≤ 6) (l w : Int32) : (bsL (costP lt cu hr l w) (ords N N 0)).1 = hsm hr (List.range N) + 3 * fwF lt cu N N 0 l w 0 (N + 1) := by
  obtain ⟨a1, ⟨q, q1, q2, -⟩, -⟩ := bsL_spec (costP lt cu hr l w) hN
  obtain ⟨b1, p, p1, p2⟩ := minC_spec lt cu hN l w
  have c1 : (bsL (costP lt cu hr l w) (ords N N 0)).1 ≤ hsm hr p + 3 * clC lt cu l w p := a1 p p1
  have c2 := b1 q q1
  replace q2 : hsm hr q + 3 * clC lt cu l w q = (bsL (costP lt cu hr l w) (ords N N 0)).1 := q2
  rw [hsm_all hr hN p1, p2] at c1
  rw [hsm_all hr hN q1] at q2
  omega
theorem least_la {N : Nat} (hN : N ≤ 6) (l w : Int32) (hh : ∀ i, hr i ≤ 100) : (bsL (costP lt cu hr l w) (ords N N 0)).1 = laF lt cu hr N N 0 l w 0 := by
  obtain ⟨a1, ⟨q, q1, q2, -⟩, -⟩ := bsL_spec (costP lt cu hr l w) hN
  refine (mins_eq ?_ (fun x hx => ?_) (Or.inr (List.mem_map.mpr ⟨q, q1, ?_⟩))).symm
  · have hs : ∀ p : List Nat, hsm hr p ≤ 100 * p.length := by
      intro p
      induction p with
      | nil => exact Nat.le_refl _
      | cons i p ih =>
        have := hh i
        simp only [hsm, List.map_cons, List.sum_cons, List.length_cons] at ih ⊢
        omega
    have h1 := hs q
    have h2 := clC_le lt cu q l w
    have h3 := (chkO_all (chk_ords hN) q q1).1
    replace q2 : hsm hr q + 3 * clC lt cu l w q = (bsL (costP lt cu hr l w) (ords N N 0)).1 := q2
    omega
  · obtain ⟨p, hp, rfl⟩ := List.mem_map.mp hx
    have h9 : (bsL (costP lt cu hr l w) (ords N N 0)).1 ≤ hsm hr p + 3 * clC lt cu l w p := a1 p hp
    rw [Nat.zero_add]
    exact h9
  · rw [Nat.zero_add]
    exact q2
/-- the class's first lot is the reference's -/
theorem first_eq {N : Nat} (hN : N ≤ 6) (h0 : 0 < N) (l w : Int32) {t : Nat} (ht : t < N) (h1 : ∀ i, i < t → ∀ p, p ∈ ords N (N - 1) (0 ||| (1 <<< i)) → fwF lt cu N N 0 l w 0 (N + 1) < clC lt cu l w (i :: p)) (h2 : t = N - 1 ∨ ∃ p, p ∈ ords N (N - 1) (0 ||| (1 <<< t)) ∧ clC lt cu l w (t :: p) ≤ fwF lt cu N N 0 l w 0 (N + 1)) : (bsL (costP lt cu hr l w) (ords N N 0)).2 = t := by
  have hl := least_cl lt cu hr hN l w
  obtain ⟨a1, ⟨q, q1, q2, q3⟩, a3⟩ := bsL_spec (costP lt cu hr l w) hN
  obtain ⟨b1, -⟩ := minC_spec lt cu hN l w
  rw [hl] at q2 a3
  have e1 : ords N N 0 = ordU N (N - 1) 0 N := by
    rw [ordU_N, show N - 1 + 1 = N by omega]
  have hq := q1
  rw [e1] at hq
  obtain ⟨i, hi, hq⟩ := List.mem_flatMap.mp hq
  rw [if_neg (by simp)] at hq
  obtain ⟨p, hp, rfl⟩ := List.mem_map.mp hq
  have hi := List.mem_range.mp hi
  have q4 : i = (bsL (costP lt cu hr l w) (ords N N 0)).2 := q3
  unfold costP at q2
  rw [hsm_all hr hN q1] at q2
  rw [← q4]
  have g1 : ¬ i < t := fun c => by
    have := h1 i c p hp
    omega
  rcases h2 with h2 | ⟨r, r1, r2⟩
  · omega
  · have m1 : (t :: r) ∈ ords N N 0 := by
      rw [e1]
      refine List.mem_flatMap.mpr ⟨t, List.mem_range.mpr ht, ?_⟩
      rw [if_neg (by simp)]
      exact List.mem_map.mpr ⟨r, r1, rfl⟩
    have m2 := b1 _ m1
    have m3 := a3 _ m1 (by unfold costP; rw [hsm_all hr hN m1]; omega)
    rw [← q4] at m3
    have m4 : pF (t :: r) 0 = t := rfl
    omega
end BOTH
