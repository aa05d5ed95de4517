/-! ===== what the reference computes, as functions of its rows ===== -/
abbrev isP (x low high : Int32) : Prop := ¬ x < low ∧ ¬ high < x
abbrev shP (a b c : Int32) : Prop := isP a 0 20 ∧ isP b 0 20 ∧ isP c 0 20
abbrev nR (σ : Sg) : Nat := ti (σ 1 0)
abbrev nO (σ : Sg) : Nat := ti (σ 2 0)
abbrev nL (σ : Sg) : Nat := ti (σ 3 0)
abbrev nV (σ : Sg) : Nat := ti (σ 4 0)
abbrev okR (σ : Sg) (r : Int32) : Prop := isP r 0 (σ 1 0 - 1)
abbrev okO (σ : Sg) (o : Int32) : Prop := isP o 0 (σ 2 0 - 1)
abbrev okL (σ : Sg) (l : Int32) : Prop := isP l 0 (σ 3 0 - 1)
abbrev okV (σ : Sg) (v : Int32) : Prop := isP v 0 (σ 4 0 - 1)
abbrev okD (d : Int32) : Prop := isP d 0 2
def f_gap (a b : Int32) : Int32 := if a < b then b - a else a - b
def f_rec (σ : Sg) (l : Int32) : Int32 := σ 10 (ti (σ 14 (ti l)))
def f_needed (σ : Sg) (l d : Int32) : Int32 := (σ 6 (ti (3 * f_rec σ l + d)) * σ 15 (ti l) + 99) / 100
def f_hours (σ : Sg) (l : Int32) : Int32 := 4 + (σ 15 (ti l) + 49) / 50
def f_lightOf (σ : Sg) (l : Int32) : Int32 := σ 5 (ti (3 * f_rec σ l))
def f_cust (σ : Sg) (l : Int32) : Int32 := σ 9 (ti (σ 14 (ti l)))
def f_bound (σ : Sg) (l : Int32) : Int32 := σ 11 (ti (σ 14 (ti l)))
def f_why (σ : Sg) (l v : Int32) : Int32 := if ¬ σ 21 (ti l) = 119 then 119 else if σ 22 (ti v) < σ 15 (ti l) then 104 else if ¬ σ 23 (ti v) = -1 ∧ σ 23 (ti v) < f_lightOf σ l then 115 else if ¬ σ 24 (ti v) = -1 ∧ ¬ σ 24 (ti v) = f_cust σ l then 98 else if σ 7 0 < f_needed σ l 0 ∨ σ 7 1 < f_needed σ l 1 ∨ σ 7 2 < f_needed σ l 2 then 103 else 45
def sumF (f : Nat → Int32) : Nat → Int32
  | 0 => 0
  | n + 1 => sumF f n + f n
def anyB (f : Nat → Bool) : Nat → Bool
  | 0 => false
  | n + 1 => anyB f n || f n
theorem anyB_hit {f : Nat → Bool} : ∀ {n i : Nat}, i < n → f i = true → anyB f n = true
  | 0, _, h, _ => absurd h (Nat.not_lt_zero _)
  | n + 1, i, h, hf => by
    rcases Nat.lt_or_ge i n with q | q
    · simp [anyB, anyB_hit q hf]
    · have e : i = n := by omega
      subst e
      simp [anyB, hf]
def f_off (σ : Sg) (l : Int32) : Int32 := f_gap (σ 16 (ti (3 * l))) (σ 5 (ti (3 * f_rec σ l))) + f_gap (σ 16 (ti (3 * l + 1))) (σ 5 (ti (3 * f_rec σ l + 1))) + f_gap (σ 16 (ti (3 * l + 2))) (σ 5 (ti (3 * f_rec σ l + 2)))
def f_apart (σ : Sg) (l m : Int32) : Int32 := f_gap (σ 16 (ti (3 * l))) (σ 16 (ti (3 * m))) + f_gap (σ 16 (ti (3 * l + 1))) (σ 16 (ti (3 * m + 1))) + f_gap (σ 16 (ti (3 * l + 2))) (σ 16 (ti (3 * m + 2)))
def p_apart (σ : Sg) (l : Int32) (m : Nat) : Bool := decide (σ 14 m = σ 14 (ti l) ∧ σ 21 m = 112 ∧ f_bound σ l < f_apart σ l (nI m))
def f_judged (σ : Sg) (l : Int32) : Int32 := if f_bound σ l < f_off σ l then 102 else if anyB (p_apart σ l) (nL σ) = true then 97 else 112
def f_waiting (σ : Sg) : Int32 := sumF (fun j => if σ 21 j = 119 then 1 else 0) (nL σ)
def f_inPlan (σ : Sg) (v : Int32) : Int32 := sumF (fun j => if σ 20 j = v then 1 else 0) (nL σ)
/-! the invariant of the rows -/
def CN (σ : Sg) (k M : Nat) : Prop := ∃ n, n ≤ M ∧ σ k 0 = nI n
def INV (σ : Sg) : Prop :=
  (CN σ 1 8 ∧ CN σ 2 6 ∧ CN σ 3 24 ∧ CN σ 4 4) ∧
  (∀ j, j < nO σ → vp_in (σ 10 j) (nR σ)) ∧
  (∀ j, j < nL σ → vp_in (σ 14 j) (nO σ)) ∧
  (∀ j, j < nL σ → 1 ≤ (σ 15 j).toInt ∧ (σ 15 j).toInt ≤ 200) ∧
  (∀ j, j < nL σ → σ 21 j = 119 ∨ σ 21 j = 100 ∨ σ 21 j = 112 ∨ σ 21 j = 120) ∧
  (∀ j, j < nL σ → ¬ σ 21 j = 119 → vp_in (σ 17 j) (nV σ)) ∧
  (∀ j, j < nL σ → ¬ σ 20 j = -1 → vp_in (σ 20 j) (nV σ) ∧ σ 21 j = 119) ∧
  (∀ v, ¬ v = -1 → (f_inPlan σ v).toInt ≤ 6) ∧
  ((∀ j, 3 * nR σ ≤ j → j < 24 → σ 6 j = 0) ∧ (∀ j, 3 * nL σ ≤ j → j < 72 → σ 16 j = 0) ∧ (∀ j, nL σ ≤ j → j < 24 → σ 18 j = 0 ∧ σ 19 j = 0) ∧ (∀ j, nV σ ≤ j → j < 4 → σ 25 j = 0 ∧ σ 26 j = 0)) ∧ (∀ j, vp_in (σ 5 j) 21) ∧ (∀ j, vp_in (σ 16 j) 21) ∧ (∀ j, j < nO σ → 0 ≤ (σ 11 j).toInt ∧ 0 ≤ (σ 12 j).toInt ∧ (σ 12 j).toInt ≤ 99)
theorem ti_nI {n : Nat} (h : n < 2 ^ 31) : ti (nI n) = n := nI_clamp h
theorem CN.lt {σ : Sg} {k M : Nat} (h : CN σ k M) (hM : M < 2 ^ 31) : ti (σ k 0) ≤ M ∧ σ k 0 = nI (ti (σ k 0)) := by
  obtain ⟨n, h1, h2⟩ := h
  have e : ti (σ k 0) = n := by rw [h2]; exact ti_nI (by omega)
  exact ⟨by omega, by rw [e]; exact h2⟩
theorem vin_mono {x : Int32} {n N : Nat} (h : vp_in x n) (hn : n ≤ N) : vp_in x N := fun q => q.elim (fun a => h (Or.inl a)) (fun b => h (Or.inr (Nat.le_trans hn b)))
theorem vin_dec {x : Int32} {n : Nat} (h : decide (¬ (x < 0 ∨ n ≤ x.toNatClampNeg)) = true) : vp_in x n := (of_decide_eq_true h : ¬ (x < 0 ∨ n ≤ x.toNatClampNeg))
theorem vin_lt {x : Int32} {n : Nat} (h : vp_in x n) : ti x < n := Nat.not_le.mp fun q => h (Or.inr q)
theorem INV.r {σ : Sg} (h : INV σ) : nR σ ≤ 8 ∧ σ 1 0 = nI (nR σ) := h.1.1.lt (by decide)
theorem INV.o {σ : Sg} (h : INV σ) : nO σ ≤ 6 ∧ σ 2 0 = nI (nO σ) := h.1.2.1.lt (by decide)
theorem INV.l {σ : Sg} (h : INV σ) : nL σ ≤ 24 ∧ σ 3 0 = nI (nL σ) := h.1.2.2.1.lt (by decide)
theorem INV.v {σ : Sg} (h : INV σ) : nV σ ≤ 4 ∧ σ 4 0 = nI (nV σ) := h.1.2.2.2.lt (by decide)
theorem lot24 {σ : Sg} (h : INV σ) {l : Int32} (hl : vp_in l (nL σ)) : vp_in l 24 := vin_mono hl h.l.1
theorem vat4 {σ : Sg} (h : INV σ) {l : Int32} (hl : vp_in l (nV σ)) : vp_in l 4 := vin_mono hl h.v.1
theorem od6 {σ : Sg} (h : INV σ) {l : Int32} (hl : vp_in l (nO σ)) : vp_in l 6 := vin_mono hl h.o.1
theorem ordO {σ : Sg} (h : INV σ) {l : Int32} (hl : vp_in l (nL σ)) : vp_in (σ 14 (ti l)) (nO σ) := h.2.2.1 _ (vin_lt hl)
theorem ordN {σ : Sg} (h : INV σ) {j : Nat} (hl : j < nL σ) : vp_in (σ 14 j) (nO σ) := h.2.2.1 _ hl
theorem recR {σ : Sg} (h : INV σ) {o : Int32} (ho : vp_in o (nO σ)) : vp_in (σ 10 (ti o)) (nR σ) := h.2.1 _ (vin_lt ho)
theorem rec8 {σ : Sg} (h : INV σ) {r : Int32} (ho : vp_in r (nR σ)) : vp_in r 8 := vin_mono ho h.r.1
theorem ltI (a b : Int32) : a < b ↔ a.toInt < b.toInt := Int32.lt_iff_toInt_lt
theorem leI (a b : Int32) : a ≤ b ↔ a.toInt ≤ b.toInt := Int32.le_iff_toInt_le
theorem vin_3 {x : Int32} {n N : Nat} (k : Nat) (h : vp_in x n) (hN : 3 * n ≤ N) (hk : k < 3) (hb : N < 2 ^ 20) : vp_in (3 * x + nI k) N ∧ ti (3 * x + nI k) = 3 * ti x + k := by
  obtain ⟨j, hj, rfl⟩ := vp_in_of h (by omega)
  have e : 3 * nI j + nI k = nI (3 * j + k) := by
    rw [show (3 : Int32) = nI 3 from rfl, pk_mul, nI_add]
  rw [e, ti_nI (by omega), ti_nI (by omega)]
  exact ⟨vp_in_nI (by omega) (by omega), rfl⟩
theorem vin_30 {x : Int32} {n N : Nat} (h : vp_in x n) (hN : 3 * n ≤ N) (hb : N < 2 ^ 20) : vp_in (3 * x) N ∧ ti (3 * x) = 3 * ti x := by
  have h1 := vin_3 0 h hN (by decide) hb
  rw [show (3 * x + nI 0) = 3 * x from by rw [nI_0]; exact Int32.add_zero _] at h1
  exact h1
theorem vin_3d {x d : Int32} {n N : Nat} (h : vp_in x n) (hN : 3 * n ≤ N) (hb : N < 2 ^ 20) (hd : vp_in d 3) : vp_in (3 * x + d) N ∧ ti (3 * x + d) = 3 * ti x + ti d := by
  obtain ⟨j, hj, rfl⟩ := vp_in_of hd (by omega)
  rw [ti_nI (by omega)]
  exact vin_3 j h hN hj hb
theorem vin_nI {n N : Nat} (h : n < N) (hN : N < 2 ^ 31) : vp_in (nI n) N := vp_in_nI h hN
theorem cnt_lt {σ : Sg} {k i : Nat} (h : ti (σ k 0) ≤ 1000 ∧ σ k 0 = nI (ti (σ k 0))) (hi : i ≤ ti (σ k 0)) (c : nI i < σ k 0) : i < ti (σ k 0) := by
  have c := Int32.not_le.mpr c
  rcases Nat.lt_or_ge i (ti (σ k 0)) with q | q
  · exact q
  · refine absurd ?_ c
    rw [h.2, nI_leI (by omega) (by omega)]
    exact q
theorem cnt_eq {σ : Sg} {k i : Nat} (h : ti (σ k 0) ≤ 1000 ∧ σ k 0 = nI (ti (σ k 0))) (hi : i ≤ ti (σ k 0)) (c : ¬ nI i < σ k 0) : i = ti (σ k 0) := by
  have c := Int32.not_lt.mp c
  rw [h.2, nI_leI (by omega) (by omega)] at c
  omega
theorem isP_in {x : Int32} {k : Nat} (hk : k ≤ 1000) : isP x 0 (nI k - 1) ↔ vp_in x k := by
  have e1 : (nI k - 1).toInt = (k : Int) - 1 := by
    cases k with
    | zero => decide
    | succ n => rw [nI_pred, nI_toInt (by omega)]; omega
  rw [vp_in_iff]
  simp only [isP, ltI, e1]
  have e0 : (0 : Int32).toInt = 0 := by decide
  rw [e0]
  omega
theorem okL_in {σ : Sg} (h : INV σ) (l : Int32) : okL σ l ↔ vp_in l (nL σ) := by
  have := isP_in (x := l) (k := nL σ) (by have := h.l.1; omega)
  rw [← h.l.2] at this
  exact this
theorem okV_in {σ : Sg} (h : INV σ) (l : Int32) : okV σ l ↔ vp_in l (nV σ) := by
  have := isP_in (x := l) (k := nV σ) (by have := h.v.1; omega)
  rw [← h.v.2] at this
  exact this
theorem okO_in {σ : Sg} (h : INV σ) (l : Int32) : okO σ l ↔ vp_in l (nO σ) := by
  have := isP_in (x := l) (k := nO σ) (by have := h.o.1; omega)
  rw [← h.o.2] at this
  exact this
theorem okR_in {σ : Sg} (h : INV σ) (l : Int32) : okR σ l ↔ vp_in l (nR σ) := by
  have := isP_in (x := l) (k := nR σ) (by have := h.r.1; omega)
  rw [← h.r.2] at this
  exact this
theorem okD_in (d : Int32) : okD d ↔ vp_in d 3 := isP_in (x := d) (k := 3) (by decide)
theorem INV.up0 {σ : Sg} (h : INV σ) (x : Int32) : INV (up σ 0 0 x) := h

theorem ti_0 : ti 0 = 0 := by decide
theorem ti_1 : ti 1 = 1 := by decide
theorem ti_2 : ti 2 = 2 := by decide
theorem fn3_lt {σ : Sg} (h3 : CN σ 3 24) {i : Nat} (hi : i ≤ nL σ) (c : nI i < σ 3 0) : i < nL σ := cnt_lt ⟨Nat.le_trans (h3.lt (by decide)).1 (by decide), (h3.lt (by decide)).2⟩ hi c
theorem fn3_eq {σ : Sg} (h3 : CN σ 3 24) {i : Nat} (hi : i ≤ nL σ) (c : ¬ nI i < σ 3 0) : i = nL σ := cnt_eq ⟨Nat.le_trans (h3.lt (by decide)).1 (by decide), (h3.lt (by decide)).2⟩ hi c
theorem fnd_lt {σ : Sg} (hI : INV σ) {i : Nat} (hi : i ≤ nL σ) (c : nI i < σ 3 0) : i < nL σ := cnt_lt ⟨Nat.le_trans hI.l.1 (by decide), hI.l.2⟩ hi c
theorem fnd_eq {σ : Sg} (hI : INV σ) {i : Nat} (hi : i ≤ nL σ) (c : ¬ nI i < σ 3 0) : i = nL σ := cnt_eq ⟨Nat.le_trans hI.l.1 (by decide), hI.l.2⟩ hi c
theorem fno_lt {σ : Sg} (hI : INV σ) {i : Nat} (hi : i ≤ nO σ) (c : nI i < σ 2 0) : i < nO σ := cnt_lt ⟨Nat.le_trans hI.o.1 (by decide), hI.o.2⟩ hi c
theorem fno_eq {σ : Sg} (hI : INV σ) {i : Nat} (hi : i ≤ nO σ) (c : ¬ nI i < σ 2 0) : i = nO σ := cnt_eq ⟨Nat.le_trans hI.o.1 (by decide), hI.o.2⟩ hi c
def lotAtF (σ : Sg) (v place : Int32) : Nat → Nat → Int32
  | 0, _ => -1
  | n + 1, i => if σ 20 i = v then (if sumF (fun j => if σ 20 j = v then 1 else 0) i = place then nI i else lotAtF σ v place n (i + 1)) else lotAtF σ v place n (i + 1)
def f_lotAt (σ : Sg) (v place : Int32) : Int32 := lotAtF σ v place (nL σ) 0
theorem lotAtF_c {σ : Sg} {v place : Int32} {i : Nat} (h : i < nL σ) (c : ¬ σ 20 i = v) : lotAtF σ v place (nL σ - i) i = lotAtF σ v place (nL σ - (i + 1)) (i + 1) := by
  rw [show nL σ - i = (nL σ - (i + 1)) + 1 by omega, lotAtF, if_neg c]
theorem lotAtF_d {σ : Sg} {v place : Int32} {i : Nat} (h : i < nL σ) (c : σ 20 i = v) (c2 : ¬ sumF (fun j => if σ 20 j = v then 1 else 0) i = place) : lotAtF σ v place (nL σ - i) i = lotAtF σ v place (nL σ - (i + 1)) (i + 1) := by
  rw [show nL σ - i = (nL σ - (i + 1)) + 1 by omega, lotAtF, if_pos c, if_neg c2]
theorem lotAtF_e {σ : Sg} {v place : Int32} {i : Nat} (h : i < nL σ) (c : σ 20 i = v) (c2 : sumF (fun j => if σ 20 j = v then 1 else 0) i = place) : lotAtF σ v place (nL σ - i) i = nI i := by
  rw [show nL σ - i = (nL σ - (i + 1)) + 1 by omega, lotAtF, if_pos c, if_pos c2]
def lastF (σ : Sg) (o : Int32) : Nat → Int32
  | 0 => 0
  | n + 1 => if σ 14 n = o ∧ ¬ σ 21 n = 119 ∧ lastF σ o n < σ 18 n then σ 18 n else lastF σ o n
def f_late (σ : Sg) (o : Int32) : Int32 := if σ 12 (ti o) < lastF σ o (nL σ) / 24 then lastF σ o (nL σ) / 24 - σ 12 (ti o) else 0
def f_wsum (σ : Sg) (o : Int32) (n : Nat) : Int32 := sumF (fun j => if σ 14 j = o ∧ σ 21 j = 112 then σ 15 j * σ 13 (ti o) else 0) n
def f_worth (σ : Sg) (o : Int32) : Int32 := if f_wsum σ o (nL σ) - 100 * f_late σ o < 0 then 0 else f_wsum σ o (nL σ) - 100 * f_late σ o
def b_ahead (σ : Sg) (l m : Int32) : Bool := if ¬ σ 16 (ti (3 * l + 0)) = σ 16 (ti (3 * m + 0)) then decide (σ 16 (ti (3 * m + 0)) < σ 16 (ti (3 * l + 0))) else if ¬ σ 16 (ti (3 * l + 1)) = σ 16 (ti (3 * m + 1)) then decide (σ 16 (ti (3 * l + 1)) < σ 16 (ti (3 * m + 1))) else if ¬ σ 16 (ti (3 * l + 2)) = σ 16 (ti (3 * m + 2)) then decide (σ 16 (ti (3 * l + 2)) < σ 16 (ti (3 * m + 2))) else decide (l < m)
