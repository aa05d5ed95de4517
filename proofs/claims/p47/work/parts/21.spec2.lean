/-! ===== the reference's public calls: what is thrown, what is answered ===== -/
def tL (σ : Sg) (l : Int32) : Int32 := if okL σ l then 0 else 1
def tV (σ : Sg) (v : Int32) : Int32 := if okV σ v then 0 else 1
def tO (σ : Sg) (o : Int32) : Int32 := if okO σ o then 0 else 1
def tD (d : Int32) : Int32 := if okD d then 0 else 1
def tLV (σ : Sg) (l v : Int32) : Int32 := if okL σ l ∧ okV σ v then 0 else 1
def tN (σ : Sg) (l is : Int32) : Int32 := if okL σ l then (if σ 21 (ti l) = is then 0 else 2) else 1
def tW (σ : Sg) (l : Int32) : Int32 := if okL σ l then (if σ 21 (ti l) = 119 then 2 else 0) else 1
theorem tN_ok {σ : Sg} {l is : Int32} (h : okL σ l ∧ σ 21 (ti l) = is) : tN σ l is = 0 := by simp only [tN, if_pos h.1, if_pos h.2]
theorem tW_ok {σ : Sg} {l : Int32} (h : okL σ l ∧ ¬ σ 21 (ti l) = 119) : tW σ l = 0 := by simp only [tW, if_pos h.1, if_neg h.2]
abbrev okW (σ : Sg) (l : Int32) : Prop := okL σ l ∧ ¬ σ 21 (ti l) = 119
def t_needs (σ : Sg) (l d : Int32) : Int32 := if okL σ l then (if okD d then 0 else 2) else 1
def t_plannedAt (σ : Sg) (v p : Int32) : Int32 := if okV σ v then (if f_lotAt σ v p = -1 then 2 else 0) else 1
def t_shadeOf (σ : Sg) (l q : Int32) : Int32 := if okW σ l then (if okD q then 0 else 3) else tW σ l
def t_dist (σ : Sg) (l b : Int32) : Int32 := if okL σ l ∧ okL σ b then (if ¬ σ 21 (ti l) = 119 ∧ ¬ σ 21 (ti b) = 119 then 0 else 2) else 1
def bestF (σ : Sg) (l : Int32) : Nat → Int32
  | 0 => -1
  | m + 1 => if ¬ nI m = l ∧ σ 21 m = 112 ∧ (bestF σ l m = -1 ∨ f_apart σ l (nI m) < f_apart σ l (bestF σ l m)) then nI m else bestF σ l m
theorem bestF_in {σ : Sg} {l : Int32} (hI : INV σ) : ∀ {i : Nat}, i ≤ nL σ → ¬ bestF σ l i = -1 → vp_in (bestF σ l i) (nL σ)
  | 0, _, h => absurd rfl h
  | m + 1, hi, h => by
    have hb := hI.l.1
    by_cases c : ¬ nI m = l ∧ σ 21 m = 112 ∧ (bestF σ l m = -1 ∨ f_apart σ l (nI m) < f_apart σ l (bestF σ l m))
    · rw [bestF, if_pos c]; exact vin_nI (by omega) (by omega)
    · rw [bestF, if_neg c] at h ⊢; exact bestF_in hI (by omega) h
def t_near (σ : Sg) (l : Int32) : Int32 := if okW σ l then (if bestF σ l (nL σ) = -1 then 3 else 0) else tW σ l
def t_cell (σ : Sg) (k : Nat) (v : Int32) : Int32 := if okV σ v then (if σ k (ti v) = -1 then 2 else 0) else 1
def c_lots (σ : Sg) (o : Int32) : Nat → Int32 := sumF (fun j => if σ 14 j = o then 1 else 0)
def c_pass (σ : Sg) (o : Int32) : Nat → Int32 := sumF (fun j => if σ 14 j = o ∧ σ 21 j = 112 then 1 else 0)
def spI (σ : Sg) (o : Int32) (i : Nat) (m0 : Int32) : Nat → Int32
  | 0 => m0
  | j + 1 => if (σ 14 i = o ∧ σ 14 j = o ∧ σ 21 i = 112 ∧ σ 21 j = 112) ∧ spI σ o i m0 j < f_apart σ (nI i) (nI j) then f_apart σ (nI i) (nI j) else spI σ o i m0 j
def spO (σ : Sg) (o : Int32) : Nat → Int32
  | 0 => 0
  | i + 1 => spI σ o i (spO σ o i) i
def sumLF (f : Nat → Int64) : Nat → Int64
  | 0 => 0
  | n + 1 => sumLF f n + f n
def f_dues (σ : Sg) (w : Int32) : Nat → Int64 := sumLF (fun o => if σ 9 o = w then (f_worth σ (nI o)).toInt64 else 0)
def isP3 (w : Int32) : Prop := isP w 0 3
def f_placeN (σ : Sg) (i : Nat) : Nat → Int32 := sumF (fun m => if ¬ σ 21 m = 119 ∧ ¬ nI m = nI i ∧ b_ahead σ (nI m) (nI i) = true then 1 else 0)
def byF (σ : Sg) (place : Int32) : Nat → Nat → Int32
  | 0, _ => -1
  | n + 1, i => if ¬ σ 21 i = 119 ∧ f_placeN σ i (nL σ) = place then nI i else byF σ place n (i + 1)
def f_byLight (σ : Sg) (place : Int32) : Int32 := byF σ place (nL σ) 0
theorem byF_c {σ : Sg} {place : Int32} {i : Nat} (h : i < nL σ) (c : ¬ (¬ σ 21 i = 119 ∧ f_placeN σ i (nL σ) = place)) : byF σ place (nL σ - i) i = byF σ place (nL σ - (i + 1)) (i + 1) := by
  rw [show nL σ - i = (nL σ - (i + 1)) + 1 by omega, byF, if_neg c]
theorem byF_e {σ : Sg} {place : Int32} {i : Nat} (h : i < nL σ) (c : ¬ σ 21 i = 119 ∧ f_placeN σ i (nL σ) = place) : byF σ place (nL σ - i) i = nI i := by
  rw [show nL σ - i = (nL σ - (i + 1)) + 1 by omega, byF, if_pos c]
theorem nI_ne1 {i : Nat} (h : i < 1000) : ¬ nI i = -1 := by
  intro e
  have := congrArg Int32.toInt e
  rw [nI_toInt (by omega)] at this
  have e1 : (-1 : Int32).toInt = -1 := by decide
  omega
theorem narW {x : Int32} (h : narrow .char (.int x) = .int x) : narrow .char (.int x) = .int x := h
theorem f_why_char (σ : Sg) (l v : Int32) : narrow .char (.int (f_why σ l v)) = .int (f_why σ l v) := by
  unfold f_why
  repeat' split
  all_goals rfl
theorem f_judged_char (σ : Sg) (l : Int32) : narrow .char (.int (f_judged σ l)) = .int (f_judged σ l) := by
  unfold f_judged
  repeat' split
  all_goals rfl
theorem narC {σ : Sg} (hI : INV σ) {l : Int32} (hl : vp_in l (nL σ)) : narrow .char (.int (σ 21 (ti l))) = .int (σ 21 (ti l)) := by
  rcases hI.2.2.2.2.1 _ (vin_lt hl) with h | h | h | h <;> rw [h] <;> rfl
theorem lotAtF_up (σ : Sg) (t v p : Int32) : ∀ n i, lotAtF (up σ 0 0 t) v p n i = lotAtF σ v p n i
  | 0, _ => rfl
  | n + 1, i => by simp only [lotAtF, lotAtF_up σ t v p n]; rfl
theorem lotAt_up (σ : Sg) (t v p : Int32) : f_lotAt (up σ 0 0 t) v p = f_lotAt σ v p := lotAtF_up σ t v p _ _
theorem lastF_up (σ : Sg) (t o : Int32) : ∀ n, lastF (up σ 0 0 t) o n = lastF σ o n
  | 0 => rfl
  | n + 1 => by simp only [lastF, lastF_up σ t o n]; rfl
theorem late_up (σ : Sg) (t o : Int32) : f_late (up σ 0 0 t) o = f_late σ o := by
  unfold f_late
  rw [show nL (up σ 0 0 t) = nL σ from rfl, lastF_up]
  rfl
theorem worth_up (σ : Sg) (t o : Int32) : f_worth (up σ 0 0 t) o = f_worth σ o := by
  unfold f_worth
  rw [late_up]
  rfl
