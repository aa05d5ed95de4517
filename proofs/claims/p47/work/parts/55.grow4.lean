/-! ===== growth by a recipe ===== -/
abbrev G_addRecipe (σ : Sg) (a b d : Int32) : Sg := up (up (up (up (up σ 0 0 0) 5 (3 * nR σ) a) 5 (3 * nR σ + 1) b) 5 (3 * nR σ + 2) d) 1 0 (σ 1 0 + 1)
theorem G_addRecipe_off {σ : Sg} {a b d : Int32} {k j : Nat} (h0 : k ≠ 0) (h4 : k ≠ 1) (h : ¬ (k = 5 ∧ 3 * nR σ ≤ j)) : G_addRecipe σ a b d k j = σ k j :=
  (up_off _ _ (by omega)).trans ((up_off _ _ (by omega)).trans ((up_off _ _ (by omega)).trans ((up_off _ _ (by omega)).trans (up_off _ _ (by omega)))))
abbrev nwR : Nat → Bool := fun K => K == 12 || (K == 13 || K == 14)
abbrev aoR : Nat → Nat := fun K => if K = 13 then 1 else if K = 14 then 2 else 0
theorem grow_rec {g : EG} {lo : Nat} {ad : Nat → Nat → Nat} {σ τ : Sg} {u : Nat → Int64} {H0 H : Heap} {a b d : Int32} {n0 : Nat} (hn0 : n0 ≤ H0.size) (hI : INV σ) (hA : XA lo ad σ) (hX : XR g ad σ u τ H0) (hv : nR σ < 8)
    (hnew : va_at g.1 vwCl (H0.size, .inr (5, [.ref (H0.size + 1), .ref (H0.size + 2)])) H) (hnew2 : va_at g.1 vwCl (H0.size + 1, .inr (6, [.int a, .int b, .int d])) H) (hnew3 : va_at g.1 vwCl (H0.size + 2, .inl (g.2 1, 3, .inl (fun _ => 0))) H)
    (harr : va_at g.1 vwCl (ad 1 0, .inl (g.2 5, 8, .inr (.inr (.inr (.inr (va_up (refA ad 12 (nR σ)) (nR σ) (some H0.size))))))) H)
    (hobj : va_at g.1 vwCl (ad 0 0, .inr (8, [.ref (ad 1 0), .ref (ad 2 0), .ref (ad 3 0), .ref (ad 4 0), .ref (ad 5 0), .ref (ad 6 0), .ref (ad 7 0), .int (σ 1 0 + 1), .int (σ 2 0), .int (σ 3 0), .int (σ 4 0)])) H)
    (hold : ∀ q, q < H0.size → q ≠ ad 1 0 → q ≠ ad 0 0 → H[q]? = H0[q]?) : XG g lo n0 ad σ (G_addRecipe σ a b d) u τ H := by
  have hc : ¬ σ 1 0 = nI 8 := fun q => by
    have : nR σ = 8 := by show ti (σ 1 0) = 8; rw [q]; decide
    omega
  obtain ⟨-, c2, -⟩ := cnt_next hI.1.1 (by decide) hc
  have e10 : G_addRecipe σ a b d 1 0 = σ 1 0 + 1 := up_on _ _
  have e20 : G_addRecipe σ a b d 2 0 = σ 2 0 := G_addRecipe_off (by decide) (by decide) (by omega)
  have e30 : G_addRecipe σ a b d 3 0 = σ 3 0 := G_addRecipe_off (by decide) (by decide) (by omega)
  have e40 : G_addRecipe σ a b d 4 0 = σ 4 0 := G_addRecipe_off (by decide) (by decide) (by omega)
  have f3 : G_addRecipe σ a b d 5 (3 * nR σ + 2) = d := (up_off _ _ (by omega)).trans (up_on _ _)
  have f2 : G_addRecipe σ a b d 5 (3 * nR σ + 1) = b := (up_off _ _ (by omega)).trans ((up_off _ _ (by omega)).trans (up_on _ _))
  have f1 : G_addRecipe σ a b d 5 (3 * nR σ) = a := (up_off _ _ (by omega)).trans ((up_off _ _ (by omega)).trans ((up_off _ _ (by omega)).trans (up_on _ _)))
  have hnL : nL (G_addRecipe σ a b d) = nL σ := congrArg ti e30
  have hnO : nO (G_addRecipe σ a b d) = nO σ := congrArg ti e20
  have hnV : nV (G_addRecipe σ a b d) = nV σ := congrArg ti e40
  have hnR : nR (G_addRecipe σ a b d) = nR σ + 1 := (congrArg ti e10).trans c2
  have hgen : ∀ k j, k ≠ 0 → k ≠ 1 → ¬ (k = 5 ∧ 3 * nR σ ≤ j) → G_addRecipe σ a b d k j = σ k j := fun k j h1 h2 h3 => G_addRecipe_off h1 h2 h3
  obtain ⟨σ', hσ'⟩ : ∃ z, z = G_addRecipe σ a b d := ⟨_, rfl⟩
  rw [← hσ'] at e40 e10 e20 e30 f1 f2 f3 hnR hnO hnL hnV hgen ⊢
  have hlt : ∀ K i, i < xcnt σ K → ad K i < H0.size := fun K i hi => (hX K i hi).lt
  have hnw : ∀ K, nwR K = true → K = 12 ∨ K = 13 ∨ K = 14 := by
    intro K h
    simpa [nwR] using h
  have t6 := hI.2.2.2.2.2.2.2.2.1.1
  have hag : ∀ K i, i < xcnt σ K → adg ad nwR aoR (nR σ) H0.size K i = ad K i := fun K i hi => adg_off ad aoR (fun q => by
    obtain ⟨q1, rfl⟩ := q
    rcases hnw K q1 with rfl | rfl | rfl <;> exact Nat.lt_irrefl _ (show nR σ < nR σ from hi))
  refine grow_gen (s0 := H0.size) (n := nR σ) (nw := nwR) (ao := aoR) hn0 ?_ ?_ ?_ hA hlt ?_ ?_
  · intro K K' h h' e
    rcases hnw K h with rfl | rfl | rfl <;> rcases hnw K' h' with rfl | rfl | rfl <;> first | rfl | exact absurd e (by decide)
  · intro K h
    rcases hnw K h with rfl | rfl | rfl <;> exact ⟨rfl, hnR⟩
  · intro K hK
    unfold xcnt
    rw [hnL, hnO, hnV]
    split <;> first | rfl | exact absurd rfl hK
  · intro K h
    rcases hnw K h with rfl | rfl | rfl
    · have e : xcont g.2 (adg ad nwR aoR (nR σ) H0.size) σ' u τ 12 (nR σ) = .inr (5, [.ref (H0.size + 1), .ref (H0.size + 2)]) := by
        show (.inr (5, [.ref (adg ad nwR aoR (nR σ) H0.size 13 (nR σ)), .ref (adg ad nwR aoR (nR σ) H0.size 14 (nR σ))]) : va_E) = _
        rw [adg_on ad aoR (nR σ) H0.size (K := 13) rfl, adg_on ad aoR (nR σ) H0.size (K := 14) rfl]
        rfl
      rw [e]; exact hnew
    · have e : xcont g.2 (adg ad nwR aoR (nR σ) H0.size) σ' u τ 13 (nR σ) = .inr (6, [.int a, .int b, .int d]) := by
        show (.inr (6, [.int (σ' 5 (3 * nR σ)), .int (σ' 5 (3 * nR σ + 1)), .int (σ' 5 (3 * nR σ + 2))]) : va_E) = _
        rw [f1, f2, f3]
      rw [e]; exact hnew2
    · show va_at g.1 vwCl (H0.size + 2, .inl (g.2 1, 3, .inl (fun d' => σ' 6 (3 * nR σ + d')))) H
      exact at_i_congr (fun j hj => by rw [hgen 6 _ (by decide) (by decide) (by omega), t6 _ (by omega) (by omega)]) hnew3
  · intro K i q
    by_cases e0 : K = 0
    · subst e0
      have : i = 0 := Nat.lt_one_iff.mp q
      subst this
      have e : xcont g.2 (adg ad nwR aoR (nR σ) H0.size) σ' u τ 0 0 = .inr (8, [.ref (ad 1 0), .ref (ad 2 0), .ref (ad 3 0), .ref (ad 4 0), .ref (ad 5 0), .ref (ad 6 0), .ref (ad 7 0), .int (σ 1 0 + 1), .int (σ 2 0), .int (σ 3 0), .int (σ 4 0)]) := by
        show (.inr (8, [.ref (adg ad nwR aoR (nR σ) H0.size 1 0), .ref (adg ad nwR aoR (nR σ) H0.size 2 0), .ref (adg ad nwR aoR (nR σ) H0.size 3 0), .ref (adg ad nwR aoR (nR σ) H0.size 4 0), .ref (adg ad nwR aoR (nR σ) H0.size 5 0), .ref (adg ad nwR aoR (nR σ) H0.size 6 0), .ref (adg ad nwR aoR (nR σ) H0.size 7 0), .int (σ' 1 0), .int (σ' 2 0), .int (σ' 3 0), .int (σ' 4 0)]) : va_E) = _
        rw [hag 1 0 Nat.zero_lt_one, hag 2 0 Nat.zero_lt_one, hag 3 0 Nat.zero_lt_one, hag 4 0 Nat.zero_lt_one, hag 5 0 Nat.zero_lt_one, hag 6 0 Nat.zero_lt_one, hag 7 0 Nat.zero_lt_one, e10, e20, e30, e40]
      rw [e]; exact hobj
    by_cases e4 : K = 1
    · subst e4
      have : i = 0 := Nat.lt_one_iff.mp q
      subst this
      have e : xcont g.2 (adg ad nwR aoR (nR σ) H0.size) σ' u τ 1 0 = .inl (g.2 5, 8, .inr (.inr (.inr (.inr (va_up (refA ad 12 (nR σ)) (nR σ) (some H0.size)))))) := by
        show (.inl (g.2 5, 8, .inr (.inr (.inr (.inr (refA (adg ad nwR aoR (nR σ) H0.size) 12 (nR σ')))))) : va_E) = _
        rw [hnR]
        exact congrArg (fun z => (.inl (g.2 5, 8, .inr (.inr (.inr (.inr z)))) : va_E)) (refA_up (n := nR σ) (fun i hi => hag 12 i hi) (adg_on ad aoR (nR σ) H0.size (K := 12) rfl)).symm
      rw [e]; exact harr
    · have k9 := (hX K i q).kept (hold _ (hlt K i q) (fun z => e4 (hA.1 K i 1 0 q Nat.zero_lt_one z).1) (fun z => e0 (hA.1 K i 0 0 q Nat.zero_lt_one z).1))
      rw [← cont_ad g.2 hI hag q] at k9
      by_cases hK : 4 < K
      · rw [cont_old g.2 (σ := σ) (σ' := σ') (fun j _ => hgen 5 j (by decide) (by decide) (by omega)) (funext fun j => hgen 6 j (by decide) (by decide) (by omega)) (funext fun j => hgen 7 j (by decide) (by decide) (by omega)) (funext fun j => hgen 16 j (by decide) (by decide) (by omega)) (fun k h1 h2 j hj => hgen k j (by omega) (by omega) (by omega)) (fun k h1 j hj => hgen k j (by omega) (by omega) (by omega)) (fun k h1 h2 j hj => hgen k j (by omega) (by omega) (by omega)) q hK]
        exact k9
      · have : K = 3 ∨ K = 2 ∨ K = 4 := by omega
        have e1 : ∀ z, xcont g.2 z σ' u τ 3 i = xcont g.2 z σ u τ 3 i := fun z => congrArg (fun n => (.inl (g.2 3, 24, .inr (.inr (.inr (.inr (refA z 16 n))))) : va_E)) hnL
        have e2 : ∀ z, xcont g.2 z σ' u τ 2 i = xcont g.2 z σ u τ 2 i := fun z => congrArg (fun n => (.inl (g.2 4, 6, .inr (.inr (.inr (.inr (refA z 15 n))))) : va_E)) hnO
        have e3 : ∀ z, xcont g.2 z σ' u τ 4 i = xcont g.2 z σ u τ 4 i := fun z => congrArg (fun n => (.inl (g.2 6, 4, .inr (.inr (.inr (.inr (refA z 18 n))))) : va_E)) hnV
        rcases this with rfl | rfl | rfl
        · rw [e1]; exact k9
        · rw [e2]; exact k9
        · rw [e3]; exact k9
theorem rec_ix {σ : Sg} {a b d : Int32} (hI : INV σ) : up (up (up (up (up σ 0 0 0) 5 (ti (3 * σ 1 0)) a) 5 (ti (3 * σ 1 0 + 1)) b) 5 (ti (3 * σ 1 0 + 2)) d) 1 0 (σ 1 0 + 1) = G_addRecipe σ a b d := by
  have h := hI.r
  have e0 : ti (3 * σ 1 0) = 3 * nR σ := by rw [h.2]; exact t30 (by omega)
  have e1 : ti (3 * σ 1 0 + 1) = 3 * nR σ + 1 := by rw [h.2]; exact t3 1 (by decide) (by omega)
  have e2 : ti (3 * σ 1 0 + 2) = 3 * nR σ + 2 := by rw [h.2]; exact t3 2 (by decide) (by omega)
  rw [e0, e1, e2]
