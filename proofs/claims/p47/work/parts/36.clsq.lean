/-! ===== the class's public loops, by numbers ===== -/
theorem cutN_le {σ : Sg} {f : Nat → Int32} : ∀ {j : Nat}, j ≤ nL σ → cutN σ f j = sumF f j
  | 0, _ => rfl
  | j + 1, h => by rw [cutN_s, cutN_le (by omega), if_pos (by omega)]; rfl
theorem lotAtX_o {σ : Sg} {v place : Int32} {j : Nat} (h : ¬ j < nL σ) : lotAtF σ v place (nL σ - j) j = lotAtF σ v place (nL σ - (j + 1)) (j + 1) := by
  rw [show nL σ - j = 0 by omega, show nL σ - (j + 1) = 0 by omega]; rfl
theorem lotAtX_m {σ : Sg} {w j : Nat} {place : Int32} (hw : w < 1000) (h : j < nL σ) (c : σ 20 j = -1) : lotAtF σ (nI w) place (nL σ - j) j = lotAtF σ (nI w) place (nL σ - (j + 1)) (j + 1) := lotAtF_c h (fun e => nI_ne1 hw (e.symm.trans c))
theorem lotAtX_d {σ : Sg} {v place : Int32} {j : Nat} (h : j < nL σ) (c : σ 20 j = v) (c2 : ¬ cutN σ (fun y => if σ 20 y = v then 1 else 0) j = place) : lotAtF σ v place (nL σ - j) j = lotAtF σ v place (nL σ - (j + 1)) (j + 1) := lotAtF_d h c (by rw [cutN_le (by omega)] at c2; exact c2)
theorem lotAtX_e {σ : Sg} {v place : Int32} {j : Nat} (h : j < nL σ) (c : σ 20 j = v) (c2 : cutN σ (fun y => if σ 20 y = v then 1 else 0) j = place) : lotAtF σ v place (nL σ - j) j = nI j := lotAtF_e h c (by rw [cutN_le (by omega)] at c2; exact c2)
theorem byX_o {σ : Sg} {place : Int32} {j : Nat} (h : ¬ j < nL σ) : byF σ place (nL σ - j) j = byF σ place (nL σ - (j + 1)) (j + 1) := by
  rw [show nL σ - j = 0 by omega, show nL σ - (j + 1) = 0 by omega]; rfl
/-! nearest -/
def bestC (σ : Sg) (i : Nat) : Nat → Int32
  | 0 => -1
  | m + 1 => if m < nL σ ∧ ¬ m = i ∧ σ 21 m = 112 ∧ (bestC σ i m = -1 ∨ f_apart σ (nI i) (nI m) < f_apart σ (nI i) (bestC σ i m)) then nI m else bestC σ i m
def leastC (σ : Sg) (i m : Nat) : Int32 := if bestC σ i m = -1 then 0 else f_apart σ (nI i) (bestC σ i m)
theorem bestC_le {σ : Sg} {i : Nat} (hb : nL σ ≤ 24) (hi : i < nL σ) : ∀ {m : Nat}, m ≤ nL σ → bestC σ i m = bestF σ (nI i) m
  | 0, _ => rfl
  | m + 1, h => by
    have ih := bestC_le hb hi (m := m) (by omega)
    rw [bestC, bestF, ih]
    have e : (¬ m = i) ↔ ¬ (nI m = nI i) := by rw [nI_eq (by omega) (by omega)]
    by_cases c : ¬ nI m = nI i ∧ σ 21 m = 112 ∧ (bestF σ (nI i) m = -1 ∨ f_apart σ (nI i) (nI m) < f_apart σ (nI i) (bestF σ (nI i) m))
    · rw [if_pos c, if_pos ⟨by omega, e.mpr c.1, c.2⟩]
    · rw [if_neg c, if_neg (fun q => c ⟨e.mp q.2.1, q.2.2⟩)]
theorem bestC_24 {σ : Sg} (hI : INV σ) {i : Nat} (hi : i < nL σ) : bestC σ i 24 = bestF σ (nI i) (nL σ) := by
  have hb := hI.l.1
  rw [← bestC_le hb hi (Nat.le_refl _)]
  have : ∀ k, bestC σ i (nL σ + k) = bestC σ i (nL σ) := by
    intro k
    induction k with
    | zero => rfl
    | succ k ih => rw [← Nat.add_assoc, bestC, ih, if_neg (fun q => by omega)]
  have := this (24 - nL σ)
  rwa [show nL σ + (24 - nL σ) = 24 by omega] at this
theorem bestC_skip {σ : Sg} {i m : Nat} (h : ¬ (m < nL σ ∧ ¬ m = i ∧ σ 21 m = 112)) : bestC σ i (m + 1) = bestC σ i m := by
  rw [bestC, if_neg (fun q => h ⟨q.1, q.2.1, q.2.2.1⟩)]
theorem leastC_skip {σ : Sg} {i m : Nat} (h : ¬ (m < nL σ ∧ ¬ m = i ∧ σ 21 m = 112)) : leastC σ i (m + 1) = leastC σ i m := by
  unfold leastC; rw [bestC_skip h]
theorem bestC_take {σ : Sg} {i m : Nat} (h : m < nL σ) (h2 : ¬ m = i) (h3 : σ 21 m = 112) (h4 : bestC σ i m = -1 ∨ f_apart σ (nI i) (nI m) < leastC σ i m) : bestC σ i (m + 1) = nI m := by
  have h5 : bestC σ i m = -1 ∨ f_apart σ (nI i) (nI m) < f_apart σ (nI i) (bestC σ i m) := by
    by_cases c : bestC σ i m = -1
    · exact Or.inl c
    · refine Or.inr (h4.elim (fun q => absurd q c) (fun q => ?_))
      unfold leastC at q; rwa [if_neg c] at q
  rw [bestC, if_pos ⟨h, h2, h3, h5⟩]
theorem leastC_take {σ : Sg} {i m : Nat} (hm : m < 1000) (h : m < nL σ) (h2 : ¬ m = i) (h3 : σ 21 m = 112) (h4 : bestC σ i m = -1 ∨ f_apart σ (nI i) (nI m) < leastC σ i m) : leastC σ i (m + 1) = f_apart σ (nI i) (nI m) := by
  unfold leastC; rw [bestC_take h h2 h3 h4, if_neg (nI_ne1 hm)]
theorem bestC_leave {σ : Sg} {i m : Nat} (h1 : ¬ bestC σ i m = -1) (h4 : ¬ f_apart σ (nI i) (nI m) < leastC σ i m) : bestC σ i (m + 1) = bestC σ i m := by
  rw [bestC, if_neg]
  rintro ⟨-, -, -, q | q⟩
  · exact h1 q
  · exact h4 (by unfold leastC; rw [if_neg h1]; exact q)
theorem leastC_leave {σ : Sg} {i m : Nat} (h1 : ¬ bestC σ i m = -1) (h4 : ¬ f_apart σ (nI i) (nI m) < leastC σ i m) : leastC σ i (m + 1) = leastC σ i m := by
  show (if bestC σ i (m + 1) = -1 then (0 : Int32) else f_apart σ (nI i) (bestC σ i (m + 1))) = leastC σ i m
  rw [bestC_leave h1 h4]; rfl
/-! spread -/
def spSt (σ : Sg) (o j : Nat) (a : Int32) : Int32 := if σ 14 j = nI o ∧ σ 21 j = 112 then (if a < greatF σ j 24 then greatF σ j 24 else a) else a
def spCl (σ : Sg) (o : Nat) : Nat → Int32 := foldF (fun j a => if j < nL σ then spSt σ o j a else a) 0
theorem spCl_s (σ : Sg) (o j : Nat) : spCl σ o (j + 1) = if j < nL σ then spSt σ o j (spCl σ o j) else spCl σ o j := rfl
theorem gap_comm {σ : Sg} (hI : INV σ) (a b : Nat) : f_gap (σ 16 a) (σ 16 b) = f_gap (σ 16 b) (σ 16 a) := by
  obtain ⟨i, hi, e1⟩ := vp_in_of (hI.2.2.2.2.2.2.2.2.2.2.1 a) (by decide)
  obtain ⟨j, hj, e2⟩ := vp_in_of (hI.2.2.2.2.2.2.2.2.2.2.1 b) (by decide)
  rw [e1, e2]
  have h : ∀ i, i < 21 → ∀ j, j < 21 → f_gap (nI i) (nI j) = f_gap (nI j) (nI i) := by decide +kernel
  exact h i hi j hj
theorem gap_self (x : Int32) : f_gap x x = 0 := by unfold f_gap; split <;> exact Int32.sub_self x
theorem apart_comm {σ : Sg} (hI : INV σ) {i j : Nat} (hi : i < 100) (hj : j < 100) : f_apart σ (nI i) (nI j) = f_apart σ (nI j) (nI i) := by
  rw [apartNI hi hj, apartNI hj hi, gap_comm hI (3 * i), gap_comm hI (3 * i + 1), gap_comm hI (3 * i + 2)]
theorem apart_self {σ : Sg} {i : Nat} (hi : i < 100) : f_apart σ (nI i) (nI i) = 0 := by
  rw [apartNI hi hi, gap_self, gap_self, gap_self]
  first | done | rfl
theorem greatF_lt {σ : Sg} (hI : INV σ) {i : Nat} (hi : i < nL σ) (k : Int32) : k < greatF σ i 24 ↔ k < 0 ∨ ∃ j, j < nL σ ∧ (σ 14 j = σ 14 i ∧ σ 21 j = 112) ∧ k < f_apart σ (nI i) (nI j) := by
  have ho : nI (ti (σ 14 i)) = σ 14 i := nI_ti (vin_mono (hI.2.2.1 _ hi) hI.o.1) (by decide)
  unfold greatF
  rw [foldF_cut hI.l.1]
  have key : ∀ n, k < foldF (grSt σ i) 0 n ↔ k < 0 ∨ ∃ j, j < n ∧ (σ 14 j = σ 14 i ∧ σ 21 j = 112) ∧ k < f_apart σ (nI i) (nI j) := by
    intro n
    induction n with
    | zero => exact ⟨Or.inl, fun h => h.elim id (fun ⟨j, h, _⟩ => absurd h (Nat.not_lt_zero _))⟩
    | succ n ih =>
      rw [foldF, show grSt σ i n (foldF (grSt σ i) 0 n) = if σ 14 n = σ 14 i ∧ σ 21 n = 112 then (if foldF (grSt σ i) 0 n < f_apart σ (nI i) (nI n) then f_apart σ (nI i) (nI n) else foldF (grSt σ i) 0 n) else foldF (grSt σ i) 0 n from by unfold grSt; rw [ho]]
      by_cases c : σ 14 n = σ 14 i ∧ σ 21 n = 112
      · rw [if_pos c, lt_great, ih]
        constructor
        · rintro ((h | ⟨j, h1, h2, h3⟩) | h)
          · exact Or.inl h
          · exact Or.inr ⟨j, by omega, h2, h3⟩
          · exact Or.inr ⟨n, by omega, c, h⟩
        · rintro (h | ⟨j, h1, h2, h3⟩)
          · exact Or.inl (Or.inl h)
          · by_cases e : j = n
            · rw [e] at h3; exact Or.inr h3
            · exact Or.inl (Or.inr ⟨j, by omega, h2, h3⟩)
      · rw [if_neg c, ih]
        constructor
        · rintro (h | ⟨j, h1, h2, h3⟩)
          · exact Or.inl h
          · exact Or.inr ⟨j, by omega, h2, h3⟩
        · rintro (h | ⟨j, h1, h2, h3⟩)
          · exact Or.inl h
          · by_cases e : j = n
            · rw [e] at h2; exact absurd h2 c
            · exact Or.inr ⟨j, by omega, h2, h3⟩
  exact key _
theorem spCl_lt {σ : Sg} {o : Nat} (k : Int32) : ∀ n, n ≤ nL σ → (k < foldF (spSt σ o) 0 n ↔ k < 0 ∨ ∃ i, i < n ∧ (σ 14 i = nI o ∧ σ 21 i = 112) ∧ k < greatF σ i 24) := by
  intro n
  induction n with
  | zero => exact fun _ => ⟨Or.inl, fun h => h.elim id (fun ⟨j, h, _⟩ => absurd h (Nat.not_lt_zero _))⟩
  | succ n ih =>
    intro hn
    rw [foldF, show spSt σ o n (foldF (spSt σ o) 0 n) = if σ 14 n = nI o ∧ σ 21 n = 112 then (if foldF (spSt σ o) 0 n < greatF σ n 24 then greatF σ n 24 else foldF (spSt σ o) 0 n) else foldF (spSt σ o) 0 n from rfl]
    have ih := ih (by omega)
    by_cases c : σ 14 n = nI o ∧ σ 21 n = 112
    · rw [if_pos c, lt_great, ih]
      constructor
      · rintro ((h | ⟨j, h1, h2, h3⟩) | h)
        · exact Or.inl h
        · exact Or.inr ⟨j, by omega, h2, h3⟩
        · exact Or.inr ⟨n, by omega, c, h⟩
      · rintro (h | ⟨j, h1, h2, h3⟩)
        · exact Or.inl (Or.inl h)
        · by_cases e : j = n
          · rw [e] at h3; exact Or.inr h3
          · exact Or.inl (Or.inr ⟨j, by omega, h2, h3⟩)
    · rw [if_neg c, ih]
      constructor
      · rintro (h | ⟨j, h1, h2, h3⟩)
        · exact Or.inl h
        · exact Or.inr ⟨j, by omega, h2, h3⟩
      · rintro (h | ⟨j, h1, h2, h3⟩)
        · exact Or.inl h
        · by_cases e : j = n
          · rw [e] at h2; exact absurd h2 c
          · exact Or.inr ⟨j, by omega, h2, h3⟩
theorem spI_lt {σ : Sg} {o : Int32} {i : Nat} {m0 : Int32} (k : Int32) : ∀ n, (k < spI σ o i m0 n ↔ k < m0 ∨ ∃ j, j < n ∧ (σ 14 i = o ∧ σ 14 j = o ∧ σ 21 i = 112 ∧ σ 21 j = 112) ∧ k < f_apart σ (nI i) (nI j)) := by
  intro n
  induction n with
  | zero => exact ⟨Or.inl, fun h => h.elim id (fun ⟨j, h, _⟩ => absurd h (Nat.not_lt_zero _))⟩
  | succ n ih =>
    rw [spI]
    have e : (if (σ 14 i = o ∧ σ 14 n = o ∧ σ 21 i = 112 ∧ σ 21 n = 112) ∧ spI σ o i m0 n < f_apart σ (nI i) (nI n) then f_apart σ (nI i) (nI n) else spI σ o i m0 n) = if (σ 14 i = o ∧ σ 14 n = o ∧ σ 21 i = 112 ∧ σ 21 n = 112) then (if spI σ o i m0 n < f_apart σ (nI i) (nI n) then f_apart σ (nI i) (nI n) else spI σ o i m0 n) else spI σ o i m0 n := by
      by_cases c : (σ 14 i = o ∧ σ 14 n = o ∧ σ 21 i = 112 ∧ σ 21 n = 112)
      · by_cases c2 : spI σ o i m0 n < f_apart σ (nI i) (nI n)
        · rw [if_pos ⟨c, c2⟩, if_pos c, if_pos c2]
        · rw [if_neg (fun q => c2 q.2), if_pos c, if_neg c2]
      · rw [if_neg (fun q => c q.1), if_neg c]
    rw [e]
    by_cases c : (σ 14 i = o ∧ σ 14 n = o ∧ σ 21 i = 112 ∧ σ 21 n = 112)
    · rw [if_pos c, lt_great, ih]
      constructor
      · rintro ((h | ⟨j, h1, h2, h3⟩) | h)
        · exact Or.inl h
        · exact Or.inr ⟨j, by omega, h2, h3⟩
        · exact Or.inr ⟨n, by omega, c, h⟩
      · rintro (h | ⟨j, h1, h2, h3⟩)
        · exact Or.inl (Or.inl h)
        · by_cases e : j = n
          · rw [e] at h3; exact Or.inr h3
          · exact Or.inl (Or.inr ⟨j, by omega, h2, h3⟩)
    · rw [if_neg c, ih]
      constructor
      · rintro (h | ⟨j, h1, h2, h3⟩)
        · exact Or.inl h
        · exact Or.inr ⟨j, by omega, h2, h3⟩
      · rintro (h | ⟨j, h1, h2, h3⟩)
        · exact Or.inl h
        · by_cases e : j = n
          · rw [e] at h2; exact absurd h2 c
          · exact Or.inr ⟨j, by omega, h2, h3⟩
theorem spO_lt {σ : Sg} {o : Int32} (k : Int32) : ∀ n, (k < spO σ o n ↔ k < 0 ∨ ∃ i j, i < n ∧ j < i ∧ (σ 14 i = o ∧ σ 14 j = o ∧ σ 21 i = 112 ∧ σ 21 j = 112) ∧ k < f_apart σ (nI i) (nI j)) := by
  intro n
  induction n with
  | zero => exact ⟨Or.inl, fun h => h.elim id (fun ⟨i, j, h, _⟩ => absurd h (Nat.not_lt_zero _))⟩
  | succ n ih =>
    rw [spO, spI_lt, ih]
    constructor
    · rintro ((h | ⟨i, j, h1, h2, h3, h4⟩) | ⟨j, h1, h2, h3⟩)
      · exact Or.inl h
      · exact Or.inr ⟨i, j, by omega, h2, h3, h4⟩
      · exact Or.inr ⟨n, j, by omega, h1, h2, h3⟩
    · rintro (h | ⟨i, j, h1, h2, h3, h4⟩)
      · exact Or.inl (Or.inl h)
      · by_cases e : i = n
        · subst e; exact Or.inr ⟨j, h2, h3, h4⟩
        · exact Or.inl (Or.inr ⟨i, j, by omega, h2, h3, h4⟩)
theorem lt_ext {a b : Int32} (h : ∀ k, k < a ↔ k < b) : a = b := by
  apply Int32.toInt_inj.mp
  rcases Int.lt_trichotomy a.toInt b.toInt with q | q | q
  · have := (h a).mpr (by rw [ltI]; exact q)
    rw [ltI] at this; omega
  · exact q
  · have := (h b).mp (by rw [ltI]; exact q)
    rw [ltI] at this; omega
theorem spreadNI {σ : Sg} (hI : INV σ) (o : Nat) : spCl σ o 24 = spO σ (nI o) (nL σ) := by
  have hb := hI.l.1
  refine lt_ext (fun k => ?_)
  unfold spCl
  rw [foldF_cut hb, spCl_lt k _ (Nat.le_refl _), spO_lt]
  constructor
  · rintro (h | ⟨i, h1, ⟨h2, h3⟩, h4⟩)
    · exact Or.inl h
    · rw [greatF_lt hI h1] at h4
      rcases h4 with h | ⟨j, g1, ⟨g2, g3⟩, g4⟩
      · exact Or.inl h
      · rcases Nat.lt_trichotomy i j with q | q | q
        · rw [apart_comm hI (by omega) (by omega)] at g4
          exact Or.inr ⟨j, i, g1, q, ⟨g2.trans h2, h2, g3, h3⟩, g4⟩
        · rw [q, apart_self (by omega)] at g4; exact Or.inl g4
        · exact Or.inr ⟨i, j, h1, q, ⟨h2, g2.trans h2, h3, g3⟩, g4⟩
  · rintro (h | ⟨i, j, h1, h2, ⟨h3, h4, h5, h6⟩, h7⟩)
    · exact Or.inl h
    · exact Or.inr ⟨i, h1, ⟨h3, h5⟩, (greatF_lt hI h1 k).mpr (Or.inr ⟨j, by omega, ⟨h4.trans h3.symm, h6⟩, h7⟩)⟩
/-! dues, means -/
def cutO (σ : Sg) (f : Nat → Int64) : Nat → Int64 := sumLF (fun j => if j < nO σ then f j else 0)
theorem cutO_s (σ : Sg) (f : Nat → Int64) (j : Nat) : cutO σ f (j + 1) = cutO σ f j + (if j < nO σ then f j else 0) := rfl
theorem duesNI {σ : Sg} (hI : INV σ) (w : Int32) : cutO σ (fun y => if σ 9 y = w then (f_worth σ (nI y)).toInt64 else 0) 6 = f_dues σ w (nO σ) := by
  have hb := hI.o.1
  have h1 : ∀ {m}, m ≤ nO σ → cutO σ (fun y => if σ 9 y = w then (f_worth σ (nI y)).toInt64 else 0) m = f_dues σ w m := by
    intro m
    induction m with
    | zero => intro _; rfl
    | succ m ih => intro h; rw [cutO_s, ih (by omega), if_pos (by omega)]; rfl
  have h2 : ∀ k, cutO σ (fun y => if σ 9 y = w then (f_worth σ (nI y)).toInt64 else 0) (nO σ + k) = f_dues σ w (nO σ) := by
    intro k
    induction k with
    | zero => exact h1 (Nat.le_refl _)
    | succ k ih => rw [← Nat.add_assoc, cutO_s, ih, if_neg (by omega), Int64.add_zero]
  have := h2 (6 - nO σ)
  rwa [show nO σ + (6 - nO σ) = 6 by omega] at this
theorem soffNI {σ : Sg} (hI : INV σ) : cutN σ (fun y => if σ 21 y = 119 then 0 else f_off σ (nI y)) 24 = s_off σ (nL σ) := sumF_cut hI.l.1
theorem cnwNI {σ : Sg} (hI : INV σ) : cutN σ (fun y => if σ 21 y = 119 then 0 else 1) 24 = c_nw σ (nL σ) := sumF_cut hI.l.1
theorem clotsNI {σ : Sg} (hI : INV σ) (o : Nat) : cutN σ (fun y => if σ 14 y = nI o then 1 else 0) 24 = c_lots σ (nI o) (nL σ) := sumF_cut hI.l.1
theorem cpassNI {σ : Sg} (hI : INV σ) (o : Nat) : cutN σ (fun y => if σ 14 y = nI o ∧ σ 21 y = 112 then 1 else 0) 24 = c_pass σ (nI o) (nL σ) := sumF_cut hI.l.1
theorem dye3 {q : Int32} (h : okD q) : q = 0 ∨ q = 1 ∨ q = 2 := by
  obtain ⟨j, hj, rfl⟩ := vp_in_of ((okD_in q).mp h) (by decide)
  rcases j with _ | _ | _ | j
  · exact Or.inl rfl
  · exact Or.inr (Or.inl rfl)
  · exact Or.inr (Or.inr rfl)
  · omega
theorem dyeN {q : Int32} (h : ¬ okD q) : q.toInt < 0 ∨ 2 < q.toInt := by
  rw [okD_in, vp_in_iff] at h
  omega
