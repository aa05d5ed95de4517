/-! ===== the class's helpers, by numbers ===== -/
theorem fb_rngI (x : Int32) : -2147483648 ≤ x.toInt ∧ x.toInt < 2147483648 := ⟨Int32.le_toInt x, Int32.toInt_lt x⟩
theorem fb_subI2 {x y : Int32} (h1 : -2147483648 ≤ x.toInt - y.toInt) (h2 : x.toInt - y.toInt < 2147483648) : (x - y).toInt = x.toInt - y.toInt := by
  rw [Int32.toInt_sub, Int.bmod_eq_of_le_mul_two (by omega) (by omega)]
theorem xa_iff {lo : Nat} {ad : Nat → Nat → Nat} {σ : Sg} (hA : XA lo ad σ) {K a b : Nat} (h1 : a < xcnt σ K) (h2 : b < xcnt σ K) : ad K a = ad K b ↔ a = b := ⟨fun e => (hA.1 K a K b h1 h2 e).2, fun e => by rw [e]⟩
theorem ti_eq {x : Int32} {n o : Nat} (h : vp_in x n) (hn : n ≤ 1000) (ho : o < 1000 := by omega) : ti x = o ↔ x = nI o := by
  obtain ⟨j, hj, rfl⟩ := vp_in_of h (by omega)
  rw [ti_nI (by omega), nI_eq (by omega) (by omega)]
theorem nI_ti {x : Int32} {n : Nat} (h : vp_in x n) (hn : n ≤ 1000) : nI (ti x) = x := by
  obtain ⟨j, hj, rfl⟩ := vp_in_of h (by omega)
  rw [ti_nI (by omega)]
theorem lt24 {j : Nat} (hj : j ≤ 24) (c : nI j < 24) : j < 24 := (nI_ltI (a := j) (b := 24) (by omega) (by decide)).mp c
theorem ge24 {j : Nat} (hj : j ≤ 24) (c : ¬ nI j < 24) : j = 24 := by
  have := mt (nI_ltI (a := j) (b := 24) (by omega) (by decide)).mpr c
  omega
theorem lt6 {j : Nat} (hj : j ≤ 6) (c : nI j < 6) : j < 6 := (nI_ltI (a := j) (b := 6) (by omega) (by decide)).mp c
theorem ge6 {j : Nat} (hj : j ≤ 6) (c : ¬ nI j < 6) : j = 6 := by
  have := mt (nI_ltI (a := j) (b := 6) (by omega) (by decide)).mpr c
  omega
theorem sumF_cut {f : Nat → Int32} {n : Nat} : ∀ {N : Nat}, n ≤ N → sumF (fun j => if j < n then f j else 0) N = sumF f n := by
  have h0 : ∀ m, m ≤ n → sumF (fun j => if j < n then f j else 0) m = sumF f m := by
    intro m
    induction m with
    | zero => intro _; rfl
    | succ m ih => intro h; rw [sumF, sumF, ih (by omega), if_pos (by omega)]
  intro N
  induction N with
  | zero => intro h; exact h0 0 (by omega) |>.trans (by rw [show n = 0 by omega])
  | succ N ih =>
    intro h
    rcases Nat.lt_or_ge N n with q | q
    · rw [h0 (N + 1) (by omega), show n = N + 1 by omega]
    · rw [sumF, ih q, if_neg (by omega), Int32.add_zero]
theorem sumF_cong {f g : Nat → Int32} : ∀ {n : Nat}, (∀ j, j < n → f j = g j) → sumF f n = sumF g n
  | 0, _ => rfl
  | n + 1, h => by rw [sumF, sumF, sumF_cong (fun j hj => h j (by omega)), h n (by omega)]
def foldF {α : Type} (st : Nat → α → α) (a0 : α) : Nat → α
  | 0 => a0
  | n + 1 => st n (foldF st a0 n)
theorem foldF_cut {α : Type} {st : Nat → α → α} {a0 : α} {n : Nat} : ∀ {N : Nat}, n ≤ N → foldF (fun j a => if j < n then st j a else a) a0 N = foldF st a0 n := by
  have h0 : ∀ m, m ≤ n → foldF (fun j a => if j < n then st j a else a) a0 m = foldF st a0 m := by
    intro m
    induction m with
    | zero => intro _; rfl
    | succ m ih => intro h; rw [foldF, foldF, ih (by omega), if_pos (by omega)]
  intro N
  induction N with
  | zero => intro h; exact h0 0 (by omega) |>.trans (by rw [show n = 0 by omega])
  | succ N ih =>
    intro h
    rcases Nat.lt_or_ge N n with q | q
    · rw [h0 (N + 1) (by omega), show n = N + 1 by omega]
    · rw [foldF, ih q, if_neg (by omega)]
theorem abs_gap {a b : Int32} (ha : vp_in a 21) (hb : vp_in b 21) : (if 0 ≤ a - b then a - b else 0 - (a - b)) = f_gap a b := by
  obtain ⟨i, hi, rfl⟩ := vp_in_of ha (by decide)
  obtain ⟨j, hj, rfl⟩ := vp_in_of hb (by decide)
  have h : ∀ i, i < 21 → ∀ j, j < 21 → (if 0 ≤ nI i - nI j then nI i - nI j else 0 - (nI i - nI j)) = f_gap (nI i) (nI j) := by decide +kernel
  exact h i hi j hj
theorem t3 {n : Nat} (k : Nat) (hk : k < 3) (hn : n < 100) : ti (3 * nI n + nI k) = 3 * n + k := by
  have := (vin_3 (x := nI n) (n := n + 1) (N := 3 * (n + 1)) k (vp_in_nI (by omega) (by omega)) (by omega) hk (by omega)).2
  rw [ti_nI (by omega)] at this
  exact this
theorem t30 {n : Nat} (hn : n < 100) : ti (3 * nI n) = 3 * n := by
  have := (vin_30 (x := nI n) (n := n + 1) (N := 3 * (n + 1)) (vp_in_nI (by omega) (by omega)) (by omega) (by omega)).2
  rw [ti_nI (by omega)] at this
  exact this
theorem r8 {σ : Sg} (hI : INV σ) {i : Nat} (hi : i < nL σ) : vp_in (σ 10 (ti (σ 14 i))) 8 := vin_mono (hI.2.1 _ (vin_lt (hI.2.2.1 _ hi))) hI.r.1
theorem recNI {σ : Sg} (hI : INV σ) {i : Nat} (hi : i < nL σ) : f_rec σ (nI i) = σ 10 (ti (σ 14 i)) := by
  have := hI.l.1
  unfold f_rec
  rw [ti_nI (by omega)]
theorem needNI {σ : Sg} (hI : INV σ) {i : Nat} (hi : i < nL σ) {d : Int32} (kd : vp_in d 3) : f_needed σ (nI i) d = (σ 6 (3 * ti (σ 10 (ti (σ 14 i))) + ti d) * σ 15 i + 99) / 100 := by
  have := hI.l.1
  unfold f_needed
  rw [recNI hI hi, (vin_3d (r8 hI hi) (N := 24) (by decide) (by decide) kd).2, ti_nI (by omega)]
theorem hoursNI {σ : Sg} (hI : INV σ) {i : Nat} (hi : i < nL σ) : f_hours σ (nI i) = 4 + (σ 15 i + 49) / 50 := by
  have := hI.l.1
  unfold f_hours
  rw [ti_nI (by omega)]
theorem lightNI {σ : Sg} (hI : INV σ) {i : Nat} (hi : i < nL σ) : f_lightOf σ (nI i) = σ 5 (3 * ti (σ 10 (ti (σ 14 i)))) := by
  unfold f_lightOf
  rw [recNI hI hi, (vin_30 (r8 hI hi) (N := 24) (by decide) (by decide)).2]
theorem custNI {σ : Sg} (hI : INV σ) {i : Nat} (hi : i < nL σ) : f_cust σ (nI i) = σ 9 (ti (σ 14 i)) := by
  have := hI.l.1
  unfold f_cust
  rw [ti_nI (by omega)]
theorem boundNI {σ : Sg} (hI : INV σ) {i : Nat} (hi : i < nL σ) : f_bound σ (nI i) = σ 11 (ti (σ 14 i)) := by
  have := hI.l.1
  unfold f_bound
  rw [ti_nI (by omega)]
theorem offNI {σ : Sg} (hI : INV σ) {i : Nat} (hi : i < nL σ) : f_off σ (nI i) = f_gap (σ 16 (3 * i)) (σ 5 (3 * ti (σ 10 (ti (σ 14 i))))) + f_gap (σ 16 (3 * i + 1)) (σ 5 (3 * ti (σ 10 (ti (σ 14 i))) + 1)) + f_gap (σ 16 (3 * i + 2)) (σ 5 (3 * ti (σ 10 (ti (σ 14 i))) + 2)) := by
  have := hI.l.1
  have h8 := r8 hI hi
  unfold f_off
  rw [recNI hI hi, t30 (by omega), (vin_30 h8 (N := 24) (by decide) (by decide)).2]
  rw [show (3 * nI i + 1) = 3 * nI i + nI 1 from rfl, show (3 * nI i + 2) = 3 * nI i + nI 2 from rfl, t3 1 (by decide) (by omega), t3 2 (by decide) (by omega)]
  rw [show (3 * σ 10 (ti (σ 14 i)) + 1) = 3 * σ 10 (ti (σ 14 i)) + nI 1 from rfl, show (3 * σ 10 (ti (σ 14 i)) + 2) = 3 * σ 10 (ti (σ 14 i)) + nI 2 from rfl, (vin_3 1 h8 (N := 24) (by decide) (by decide) (by decide)).2, (vin_3 2 h8 (N := 24) (by decide) (by decide) (by decide)).2]
theorem apartNI {σ : Sg} {i j : Nat} (hi : i < 100) (hj : j < 100) : f_apart σ (nI i) (nI j) = f_gap (σ 16 (3 * i)) (σ 16 (3 * j)) + f_gap (σ 16 (3 * i + 1)) (σ 16 (3 * j + 1)) + f_gap (σ 16 (3 * i + 2)) (σ 16 (3 * j + 2)) := by
  unfold f_apart
  rw [t30 hi, t30 hj, show (3 * nI i + 1) = 3 * nI i + nI 1 from rfl, show (3 * nI i + 2) = 3 * nI i + nI 2 from rfl, show (3 * nI j + 1) = 3 * nI j + nI 1 from rfl, show (3 * nI j + 2) = 3 * nI j + nI 2 from rfl, t3 1 (by decide) hi, t3 2 (by decide) hi, t3 1 (by decide) hj, t3 2 (by decide) hj]
theorem aheadNI {σ : Sg} {i j : Nat} (hi : i < 100) (hj : j < 100) : b_ahead σ (nI i) (nI j) = if ¬ σ 16 (3 * i) = σ 16 (3 * j) then decide (σ 16 (3 * j) < σ 16 (3 * i)) else if ¬ σ 16 (3 * i + 1) = σ 16 (3 * j + 1) then decide (σ 16 (3 * i + 1) < σ 16 (3 * j + 1)) else if ¬ σ 16 (3 * i + 2) = σ 16 (3 * j + 2) then decide (σ 16 (3 * i + 2) < σ 16 (3 * j + 2)) else decide (nI i < nI j) := by
  unfold b_ahead
  rw [show (3 * nI i + 0) = 3 * nI i + nI 0 from rfl, show (3 * nI j + 0) = 3 * nI j + nI 0 from rfl, t3 0 (by decide) hi, t3 0 (by decide) hj, show (3 * nI i + 1) = 3 * nI i + nI 1 from rfl, show (3 * nI i + 2) = 3 * nI i + nI 2 from rfl, show (3 * nI j + 1) = 3 * nI j + nI 1 from rfl, show (3 * nI j + 2) = 3 * nI j + nI 2 from rfl, t3 1 (by decide) hi, t3 2 (by decide) hi, t3 1 (by decide) hj, t3 2 (by decide) hj]
  rfl
theorem whyNI {σ : Sg} (hI : INV σ) {i v : Nat} (hi : i < nL σ) (hv : v < nV σ) : f_why σ (nI i) (nI v) = if ¬ σ 21 i = 119 then 119 else if σ 22 v < σ 15 i then 104 else if ¬ σ 23 v = -1 ∧ σ 23 v < σ 5 (3 * ti (σ 10 (ti (σ 14 i)))) then 115 else if ¬ σ 24 v = -1 ∧ ¬ σ 24 v = σ 9 (ti (σ 14 i)) then 98 else if σ 7 0 < f_needed σ (nI i) 0 ∨ σ 7 1 < f_needed σ (nI i) 1 ∨ σ 7 2 < f_needed σ (nI i) 2 then 103 else 45 := by
  have := hI.l.1
  have := hI.v.1
  unfold f_why
  rw [ti_nI (by omega), ti_nI (by omega), lightNI hI hi, custNI hI hi]
abbrev stk (σ : Sg) (i : Nat) : Prop := ¬ σ 7 0 < f_needed σ (nI i) 0 ∧ ¬ σ 7 1 < f_needed σ (nI i) 1 ∧ ¬ σ 7 2 < f_needed σ (nI i) 2
def grSt (σ : Sg) (i j : Nat) (a : Int32) : Int32 := if σ 14 j = nI (ti (σ 14 i)) ∧ σ 21 j = 112 then (if a < f_apart σ (nI i) (nI j) then f_apart σ (nI i) (nI j) else a) else a
def greatF (σ : Sg) (i : Nat) : Nat → Int32 := foldF (fun j a => if j < nL σ then grSt σ i j a else a) 0
def clSt (σ : Sg) (o j : Nat) (a : Int32) : Int32 := if σ 14 j = nI o ∧ ¬ σ 21 j = 119 then (if a < σ 18 j then σ 18 j else a) else a
def clkF (σ : Sg) (o : Nat) : Nat → Int32 := foldF (fun j a => if j < nL σ then clSt σ o j a else a) 0
def cutN (σ : Sg) (f : Nat → Int32) : Nat → Int32 := sumF (fun j => if j < nL σ then f j else 0)
theorem lt_great {a b k : Int32} : (k < if a < b then b else a) ↔ (k < a ∨ k < b) := by
  by_cases h : a < b
  · rw [if_pos h]
    constructor
    · exact Or.inr
    · rintro (q | q)
      · rw [ltI] at *; omega
      · exact q
  · rw [if_neg h]
    constructor
    · exact Or.inl
    · rintro (q | q)
      · exact q
      · rw [ltI] at *; omega
theorem great_any {σ : Sg} (hI : INV σ) {i : Nat} (hi : i < nL σ) : (f_bound σ (nI i) < greatF σ i 24) ↔ anyB (p_apart σ (nI i)) (nL σ) = true := by
  have hb := hI.l.1
  have hbd : 0 ≤ (f_bound σ (nI i)).toInt := by rw [boundNI hI hi]; exact (hI.2.2.2.2.2.2.2.2.2.2.2 _ (vin_lt (hI.2.2.1 _ hi))).1
  have ho : nI (ti (σ 14 i)) = σ 14 i := nI_ti (vin_mono (hI.2.2.1 _ hi) hI.o.1) (by decide)
  unfold greatF
  rw [foldF_cut hb]
  have key : ∀ n, n ≤ nL σ → ((f_bound σ (nI i) < foldF (grSt σ i) 0 n) ↔ anyB (p_apart σ (nI i)) n = true) := by
    intro n
    induction n with
    | zero =>
      intro _
      have e0 : (0 : Int32).toInt = 0 := by decide
      simp only [foldF, anyB, ltI, e0]
      constructor
      · intro q; omega
      · intro q; cases q
    | succ n ih =>
      intro h
      have ih := ih (by omega)
      rw [foldF, anyB, Bool.or_eq_true, ← ih]
      unfold grSt p_apart
      rw [ho, ti_nI (by omega)]
      by_cases c : σ 14 n = σ 14 i ∧ σ 21 n = 112
      · rw [if_pos c, lt_great, decide_eq_true_iff]
        constructor
        · rintro (q | q)
          · exact Or.inl q
          · exact Or.inr ⟨c.1, c.2, q⟩
        · rintro (q | q)
          · exact Or.inl q
          · exact Or.inr q.2.2
      · rw [if_neg c, decide_eq_true_iff]
        constructor
        · exact Or.inl
        · rintro (q | q)
          · exact q
          · exact absurd ⟨q.1, q.2.1⟩ c
  exact key _ (Nat.le_refl _)
theorem judgedNI {σ : Sg} (hI : INV σ) {i : Nat} (hi : i < nL σ) : f_judged σ (nI i) = if σ 11 (ti (σ 14 i)) < f_off σ (nI i) then 102 else if σ 11 (ti (σ 14 i)) < greatF σ i 24 then 97 else 112 := by
  unfold f_judged
  have h := great_any hI hi
  rw [boundNI hI hi] at h ⊢
  by_cases c : σ 11 (ti (σ 14 i)) < greatF σ i 24
  · rw [if_pos (h.mp c), if_pos c]
  · rw [if_neg (mt h.mpr c), if_neg c]
theorem clk_last {σ : Sg} (hI : INV σ) {o : Nat} : clkF σ o 24 = lastF σ (nI o) (nL σ) := by
  unfold clkF
  rw [foldF_cut hI.l.1]
  have key : ∀ n, foldF (clSt σ o) 0 n = lastF σ (nI o) n := by
    intro n
    induction n with
    | zero => rfl
    | succ n ih =>
      rw [foldF, lastF, ih]
      unfold clSt
      by_cases c : σ 14 n = nI o ∧ ¬ σ 21 n = 119
      · rw [if_pos c]
        by_cases c2 : lastF σ (nI o) n < σ 18 n
        · rw [if_pos c2, if_pos ⟨c.1, c.2, c2⟩]
        · rw [if_neg c2, if_neg (fun q => c2 q.2.2)]
      · rw [if_neg c, if_neg (fun q => c ⟨q.1, q.2.1⟩)]
  exact key _
theorem last_pos (σ : Sg) (o : Int32) : ∀ n, 0 ≤ (lastF σ o n).toInt
  | 0 => by show 0 ≤ (0 : Int32).toInt; decide
  | n + 1 => by
    have ih := last_pos σ o n
    rw [lastF]
    split
    · rename_i h
      have := h.2.2
      rw [ltI] at this
      omega
    · exact ih
theorem div24 {x : Int32} (h : 0 ≤ x.toInt) : (x / 24).toInt = x.toInt / 24 := by
  have h2 : x.toInt < 2147483648 := (fb_rngI x).2
  have e : x = nI x.toInt.toNat := by
    apply Int32.toInt_inj.mp
    rw [nI_toInt (by omega)]
    omega
  rw [e, show (24 : Int32) = nI 24 from rfl, pk_div (by omega) (by decide) (by decide), nI_toInt (by omega), nI_toInt (by omega)]
  omega
theorem lateNI {σ : Sg} (hI : INV σ) {o : Nat} (ho : o < nO σ) : f_late σ (nI o) = if 0 < clkF σ o 24 / 24 - σ 12 o then clkF σ o 24 / 24 - σ 12 o else 0 := by
  have hb := hI.o.1
  have hd := (hI.2.2.2.2.2.2.2.2.2.2.2 _ ho).2
  unfold f_late
  rw [clk_last hI, ti_nI (by omega)]
  have hp := last_pos σ (nI o) (nL σ)
  generalize lastF σ (nI o) (nL σ) = x at hp ⊢
  have hx := div24 hp
  have hxr : x.toInt < 2147483648 := (fb_rngI x).2
  have hs : (x / 24 - σ 12 o).toInt = (x / 24).toInt - (σ 12 o).toInt := fb_subI2 (by omega) (by omega)
  have h0 : (0 : Int32).toInt = 0 := by decide
  by_cases c : σ 12 o < x / 24
  · rw [if_pos c, if_pos]
    rw [ltI] at c ⊢
    omega
  · rw [if_neg c, if_neg]
    rw [ltI] at c ⊢
    omega
theorem wsum_mul {σ : Sg} {o : Nat} (hI : INV σ) (ho : o < nO σ) : ∀ n, f_wsum σ (nI o) n = sumF (fun j => if σ 14 j = nI o ∧ σ 21 j = 112 then σ 15 j else 0) n * σ 13 o
  | 0 => by simp [f_wsum, sumF]
  | n + 1 => by
    have hb := hI.o.1
    have ih := wsum_mul hI ho n
    unfold f_wsum at ih ⊢
    rw [sumF, sumF, ih, ti_nI (by omega)]
    by_cases c : σ 14 n = nI o ∧ σ 21 n = 112
    · rw [if_pos c, if_pos c, Int32.add_mul]
    · rw [if_neg c, if_neg c, Int32.add_zero, Int32.add_zero]
theorem worthNI {σ : Sg} (hI : INV σ) {o : Nat} (ho : o < nO σ) : f_worth σ (nI o) = if 0 < cutN σ (fun j => if σ 14 j = nI o ∧ σ 21 j = 112 then σ 15 j else 0) 24 * σ 13 o - 100 * f_late σ (nI o) then cutN σ (fun j => if σ 14 j = nI o ∧ σ 21 j = 112 then σ 15 j else 0) 24 * σ 13 o - 100 * f_late σ (nI o) else 0 := by
  unfold f_worth cutN
  rw [wsum_mul hI ho, sumF_cut hI.l.1]
  generalize sumF (fun j => if σ 14 j = nI o ∧ σ 21 j = 112 then σ 15 j else 0) (nL σ) * σ 13 o - 100 * f_late σ (nI o) = z
  have h0 : (0 : Int32).toInt = 0 := by decide
  by_cases c : z < 0
  · rw [if_pos c, if_neg]
    rw [ltI] at c ⊢
    omega
  · rw [if_neg c]
    by_cases c2 : 0 < z
    · rw [if_pos c2]
    · rw [if_neg c2]
      apply Int32.toInt_inj.mp
      rw [ltI] at c c2
      omega
theorem ahead_irr (σ : Sg) {i : Nat} (hi : i < 100) : b_ahead σ (nI i) (nI i) = false := by
  rw [aheadNI hi hi]
  simp
theorem placeNI {σ : Sg} (hI : INV σ) {i : Nat} (hi : i < nL σ) : cutN σ (fun j => if ¬ σ 21 j = 119 ∧ b_ahead σ (nI j) (nI i) = true then 1 else 0) 24 = f_placeN σ i (nL σ) := by
  have hb := hI.l.1
  unfold cutN f_placeN
  rw [sumF_cut hb]
  refine sumF_cong (fun j hj => ?_)
  by_cases e : j = i
  · subst e
    rw [if_neg (fun q => by rw [ahead_irr σ (by omega)] at q; exact absurd q.2 (by decide)), if_neg (fun q => q.2.1 rfl)]
  · have hn : ¬ nI j = nI i := fun q => e ((nI_eq (by omega) (by omega)).mp q)
    by_cases c : ¬ σ 21 j = 119 ∧ b_ahead σ (nI j) (nI i) = true
    · rw [if_pos c, if_pos ⟨c.1, hn, c.2⟩]
    · rw [if_neg c, if_neg (fun q => c ⟨q.1, q.2.2⟩)]
theorem greatF_s (σ : Sg) (i j : Nat) : greatF σ i (j + 1) = if j < nL σ then grSt σ i j (greatF σ i j) else greatF σ i j := rfl
theorem clkF_s (σ : Sg) (o j : Nat) : clkF σ o (j + 1) = if j < nL σ then clSt σ o j (clkF σ o j) else clkF σ o j := rfl
theorem cutN_s (σ : Sg) (f : Nat → Int32) (j : Nat) : cutN σ f (j + 1) = cutN σ f j + (if j < nL σ then f j else 0) := rfl
