/-! ===== what the calls keep: small facts ===== -/
theorem in6 {σ : Sg} (hI : INV σ) {w : Nat} (hw : w < 1000) (h : ¬ f_inPlan σ (nI w) < 6) : f_inPlan σ (nI w) = 6 := by
  have h1 := hI.2.2.2.2.2.2.2.1 (nI w) (nI_ne1 hw)
  rw [ltI] at h
  have e6 : (6 : Int32).toInt = 6 := by decide
  apply Int32.toInt_inj.mp
  omega
theorem in6n {σ : Sg} {w : Nat} (h : f_inPlan σ (nI w) < 6) : ¬ f_inPlan σ (nI w) = 6 := fun e => by
  rw [e] at h
  exact absurd h (by decide)
theorem grams_c (cy : Nat → ClassId) (ad : Nat → Nat → Nat) {σ τ : Sg} {u : Nat → Int64} {i : Nat} {d x : Int32} {fs : Nat → Int32} (hf : fs = fun d' => σ 6 (3 * i + d')) : (.inl (cy 1, 3, .inl (upd fs (ti d) x)) : va_E) = xcont cy ad (up σ 6 (3 * i + ti d) x) u τ 14 i := by
  subst hf
  show (.inl (cy 1, 3, .inl (upd (fun d' => σ 6 (3 * i + d')) (ti d) x)) : va_E) = .inl (cy 1, 3, .inl (fun d' => up σ 6 (3 * i + ti d) x 6 (3 * i + d')))
  congr 4
  funext d'
  rw [up_same]
  unfold upd
  by_cases h : d' = ti d
  · rw [if_pos h, if_pos (by rw [h])]
  · rw [if_neg h, if_neg (by omega)]
theorem at_i_congr {D : va_G} {cl : List vw_C} {a n : Nat} {cA : ClassId} {f f' : Nat → Int32} {H : Heap} (h : ∀ j, j < n → f j = f' j) (k : va_at D cl (a, .inl (cA, n, .inl f)) H) : va_at D cl (a, .inl (cA, n, .inl f')) H := by
  have e : vp_cell cA (n, .inl f) = vp_cell cA (n, .inl f') := by
    rw [vp_cell_i, vp_cell_i]
    unfold arrV
    rw [show (fun j : Fin n => Value.int (f j.val)) = fun j : Fin n => Value.int (f' j.val) from funext fun j => congrArg Value.int (h j.val j.isLt)]
  show H[a]? = some (vp_cell cA (n, .inl f'))
  rw [← e]
  exact k
theorem xs_grams {g : EG} {lo : Nat} {ad : Nat → Nat → Nat} {σ τ : Sg} {u : Nat → Int64} {H0 H H1 : Heap} {locs : List Loc} (h : XS g lo ad σ u τ H0 H locs) (hA : XA lo ad σ) {i j : Nat} (hi : i < nR σ) {d x : Int32} (kd : vp_in d 3) (hat : va_at g.1 vwCl (ad 14 i, .inl (g.2 1, 3, .inl (upd (fun d' => σ 6 (3 * i + d')) (ti d) x))) H1) (hz : H1.size = H.size) (oq : ∀ q, q ≠ ad 14 i → H1[q]? = H[q]?) : XS g lo ad (up σ 6 (3 * i + ti d) x) u τ H0 H1 (locs ++ [⟨ad 14 i, j⟩]) := by
  have kd := vin_lt kd
  rw [grams_c g.2 ad (τ := τ) (u := u) rfl] at hat
  obtain ⟨h1, h2, h3, h4⟩ := h
  refine ⟨fun K' i' hi' => ?_, hz.trans h2, fun q hq => ?_, fun z hz' => ?_⟩
  · by_cases e : K' = 14 ∧ i' = i
    · obtain ⟨rfl, rfl⟩ := e; exact hat
    · have k9 := (h1 K' i' hi').kept (oq _ (fun q => e (hA.1 K' i' 14 i hi' hi q)))
      by_cases e14 : K' = 14
      · subst e14
        exact at_i_congr (fun j hj => by rw [up_off]; omega) k9
      · rw [cont_grams g.2 ad (σ := σ) (a := i) (fun k9 j9 hn => up_off _ _ (by omega)) e e14]
        exact k9
  · rw [oq q (fun e => hq ⟨14, i, hi, e⟩)]; exact h3 q hq
  · rcases loc1 z hz' with h | h
    · exact h4 z h
    · rw [h]; exact hA.2 14 i hi
/-- a lot that was refused waits again -/
theorem INV_again {σ : Sg} (hI : INV σ) {i : Nat} (hs : σ 21 i = 120) : INV (up σ 21 i 119) := by
  obtain ⟨a, b, c, d, e, f, g, h⟩ := hI
  refine ⟨a, b, c, d, fun j hj => ?_, fun j hj h1 => ?_, fun j hj h1 => ?_, h⟩
  · by_cases q : j = i
    · rw [q, up_on]; exact Or.inl rfl
    · rw [up_off σ _ (fun z => q z.2)]; exact e j hj
  · by_cases q : j = i
    · rw [q, up_on] at h1; exact absurd rfl h1
    · rw [up_off σ _ (fun z => q z.2)] at h1; exact f j hj h1
  · have h2 := g j hj h1
    refine ⟨h2.1, ?_⟩
    by_cases q : j = i
    · rw [q, up_on]
    · rw [up_off σ _ (fun z => q z.2)]; exact h2.2
theorem needed_up7 (σ : Sg) (j : Nat) (x l d : Int32) : f_needed (up σ 7 j x) l d = f_needed σ l d := rfl
theorem dye_chain {σ : Sg} {i w : Nat} {a b d : Int32} (hi : i < 100) (hw : w < 100) : up (up (up (up (up (up (up (up (up (up (up (up (up (up σ 0 0 0) 7 0 (σ 7 0 - f_needed σ (nI i) 0)) 7 1 (σ 7 1 - f_needed σ (nI i) 1)) 7 2 (σ 7 2 - f_needed σ (nI i) 2)) 23 w a) 25 w (σ 25 w + f_hours σ (nI i))) 16 (3 * i) a) 16 (3 * i + 1) b) 16 (3 * i + 2) d) 21 i 100) 17 i (nI w)) 18 i (σ 25 w + f_hours σ (nI i))) 19 i (σ 26 w)) 20 i (-1) = C_dye σ (nI i) (nI w) a b d := by
  unfold C_dye
  rw [t30 hi, show (3 * nI i + 1) = 3 * nI i + nI 1 from rfl, show (3 * nI i + 2) = 3 * nI i + nI 2 from rfl, t3 1 (by decide) hi, t3 2 (by decide) hi, ti_nI (by omega), ti_nI (by omega)]
  generalize f_needed σ (nI i) 0 = n0
  generalize f_needed σ (nI i) 1 = n1
  generalize f_needed σ (nI i) 2 = n2
  generalize f_hours σ (nI i) = hh
  funext k j
  by_cases h7 : k = 7
  · subst h7; simp [up]
  by_cases h16 : k = 16
  · subst h16; simp [up]
  by_cases h17 : k = 17
  · subst h17; simp [up]
  by_cases h18 : k = 18
  · subst h18; simp [up]
  by_cases h19 : k = 19
  · subst h19; simp [up]
  by_cases h20 : k = 20
  · subst h20; simp [up]
  by_cases h21 : k = 21
  · subst h21; simp [up]
  by_cases h23 : k = 23
  · subst h23; simp [up]
  by_cases h25 : k = 25
  · subst h25; simp [up]
  simp [up, h7, h16, h17, h18, h19, h20, h21, h23, h25]
theorem needed_up0 (σ : Sg) (j : Nat) (x l d : Int32) : f_needed (up σ 0 j x) l d = f_needed σ l d := rfl
theorem hours_up0 (σ : Sg) (j : Nat) (x l : Int32) : f_hours (up σ 0 j x) l = f_hours σ l := rfl
theorem hours_up7 (σ : Sg) (j : Nat) (x l : Int32) : f_hours (up σ 7 j x) l = f_hours σ l := rfl
theorem hours_up23 (σ : Sg) (j : Nat) (x l : Int32) : f_hours (up σ 23 j x) l = f_hours σ l := rfl
theorem INV.u0 {σ : Sg} (h : INV σ) (j : Nat) (x : Int32) : INV (up σ 0 j x) := h
theorem INV.u7 {σ : Sg} (h : INV σ) (j : Nat) (x : Int32) : INV (up σ 7 j x) := h
theorem INV.u22 {σ : Sg} (h : INV σ) (j : Nat) (x : Int32) : INV (up σ 22 j x) := h
theorem INV.u23 {σ : Sg} (h : INV σ) (j : Nat) (x : Int32) : INV (up σ 23 j x) := h
theorem INV.u24 {σ : Sg} (h : INV σ) (j : Nat) (x : Int32) : INV (up σ 24 j x) := h
theorem xcnt_up (σ : Sg) {k : Nat} (hk : 4 < k) (j : Nat) (x : Int32) : xcnt (up σ k j x) = xcnt σ := by
  have h : ∀ k', k' < 5 → up σ k j x k' = σ k' := fun k' h => up_ne σ j x (by omega)
  unfold xcnt nR nO nL nV
  rw [h 1 (by decide), h 2 (by decide), h 3 (by decide), h 4 (by decide)]
