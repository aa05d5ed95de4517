abbrev G_addOrder (σ : Sg) (w r b d x : Int32) : Sg := up (up (up (up (up (up (up σ 0 0 0) 9 (nO σ) w) 10 (nO σ) r) 11 (nO σ) b) 12 (nO σ) d) 13 (nO σ) x) 2 0 (σ 2 0 + 1)
theorem G_addOrder_off {σ : Sg} {w r b d x : Int32} {k j : Nat} (h0 : k ≠ 0) (h4 : k ≠ 2) (h : ¬ (9 ≤ k ∧ k ≤ 13 ∧ j = nO σ)) : G_addOrder σ w r b d x k j = σ k j :=
  (up_off _ _ (by omega)).trans ((up_off _ _ (by omega)).trans ((up_off _ _ (by omega)).trans ((up_off _ _ (by omega)).trans ((up_off _ _ (by omega)).trans ((up_off _ _ (by omega)).trans (up_off _ _ (by omega)))))))
theorem grow_ord {g : EG} {lo : Nat} {ad : Nat → Nat → Nat} {σ τ : Sg} {u : Nat → Int64} {H0 H : Heap} {w r b d x : Int32} {n0 : Nat} (hn0 : n0 ≤ H0.size) (hI : INV σ) (hA : XA lo ad σ) (hX : XR g ad σ u τ H0) (hv : nO σ < 6)
    (hnew : va_at g.1 vwCl (H0.size, .inr (3, [.int w, .ref (ad 12 (ti r)), .int b, .int d, .int x])) H)
    (harr : va_at g.1 vwCl (ad 2 0, .inl (g.2 4, 6, .inr (.inr (.inr (.inr (va_up (refA ad 15 (nO σ)) (nO σ) (some H0.size))))))) H)
    (hobj : va_at g.1 vwCl (ad 0 0, .inr (8, [.ref (ad 1 0), .ref (ad 2 0), .ref (ad 3 0), .ref (ad 4 0), .ref (ad 5 0), .ref (ad 6 0), .ref (ad 7 0), .int (σ 1 0), .int (σ 2 0 + 1), .int (σ 3 0), .int (σ 4 0)])) H)
    (hold : ∀ q, q < H0.size → q ≠ ad 2 0 → q ≠ ad 0 0 → H[q]? = H0[q]?) : XG g lo n0 ad σ (G_addOrder σ w r b d x) u τ H := by
  have hc : ¬ σ 2 0 = nI 6 := fun q => by
    have : nO σ = 6 := by show ti (σ 2 0) = 6; rw [q]; decide
    omega
  obtain ⟨-, c2, -⟩ := cnt_next hI.1.2.1 (by decide) hc
  have e20 : G_addOrder σ w r b d x 2 0 = σ 2 0 + 1 := up_on _ _
  have e10 : G_addOrder σ w r b d x 1 0 = σ 1 0 := G_addOrder_off (by decide) (by decide) (by omega)
  have e30 : G_addOrder σ w r b d x 3 0 = σ 3 0 := G_addOrder_off (by decide) (by decide) (by omega)
  have e40 : G_addOrder σ w r b d x 4 0 = σ 4 0 := G_addOrder_off (by decide) (by decide) (by omega)
  have f13 : G_addOrder σ w r b d x 13 (nO σ) = x := (up_off _ _ (by omega)).trans (up_on _ _)
  have f12 : G_addOrder σ w r b d x 12 (nO σ) = d := (up_off _ _ (by omega)).trans ((up_off _ _ (by omega)).trans (up_on _ _))
  have f11 : G_addOrder σ w r b d x 11 (nO σ) = b := (up_off _ _ (by omega)).trans ((up_off _ _ (by omega)).trans ((up_off _ _ (by omega)).trans (up_on _ _)))
  have f10 : G_addOrder σ w r b d x 10 (nO σ) = r := (up_off _ _ (by omega)).trans ((up_off _ _ (by omega)).trans ((up_off _ _ (by omega)).trans ((up_off _ _ (by omega)).trans (up_on _ _))))
  have f9 : G_addOrder σ w r b d x 9 (nO σ) = w := (up_off _ _ (by omega)).trans ((up_off _ _ (by omega)).trans ((up_off _ _ (by omega)).trans ((up_off _ _ (by omega)).trans ((up_off _ _ (by omega)).trans (up_on _ _)))))
  have hnR : nR (G_addOrder σ w r b d x) = nR σ := congrArg ti e10
  have hnV : nV (G_addOrder σ w r b d x) = nV σ := congrArg ti e40
  have hnL : nL (G_addOrder σ w r b d x) = nL σ := congrArg ti e30
  have hnO : nO (G_addOrder σ w r b d x) = nO σ + 1 := (congrArg ti e20).trans c2
  have hgen : ∀ k j, k ≠ 0 → k ≠ 2 → ¬ (9 ≤ k ∧ k ≤ 13 ∧ j = nO σ) → G_addOrder σ w r b d x k j = σ k j := fun k j h1 h2 h3 => G_addOrder_off h1 h2 h3
  obtain ⟨σ', hσ'⟩ : ∃ z, z = G_addOrder σ w r b d x := ⟨_, rfl⟩
  rw [← hσ'] at e40 e10 e20 e30 f9 f10 f11 f12 f13 hnR hnO hnL hnV hgen ⊢
  have hlt : ∀ K i, i < xcnt σ K → ad K i < H0.size := fun K i hi => (hX K i hi).lt
  have hag : ∀ K i, i < xcnt σ K → adp ad 15 (nO σ) H0.size K i = ad K i := fun K i hi => adp_off ad (fun q => by
    obtain ⟨rfl, rfl⟩ := q
    exact Nat.lt_irrefl _ (show nO σ < nO σ from hi))
  have hxc : ∀ K, K ≠ 15 → xcnt σ' K = xcnt σ K := by
    intro K hK
    unfold xcnt
    rw [hnR, hnV, hnL]
    split <;> first | rfl | exact absurd rfl hK
  have hcase : ∀ K i, i < xcnt σ' K → (K = 15 ∧ i = nO σ) ∨ i < xcnt σ K := by
    intro K i hi
    by_cases hK : K = 15
    · subst hK
      have hi : i < nO σ' := hi
      rw [hnO] at hi
      by_cases e : i = nO σ
      · exact Or.inl ⟨rfl, e⟩
      · exact Or.inr (show i < nO σ by omega)
    · rw [hxc K hK] at hi; exact Or.inr hi
  refine ⟨adp ad 15 (nO σ) H0.size, hag, ⟨fun K i K' i' hi hi' he => ?_, fun K i hi => ?_⟩, fun K i hi => ?_, fun K i h1 h2 => (hcase K i h1).elim (fun q => by obtain ⟨rfl, rfl⟩ := q; rw [adp_on]; exact hn0) (fun q => absurd q h2)⟩
  · rcases hcase K i hi with ⟨rfl, rfl⟩ | q
    · rcases hcase K' i' hi' with ⟨rfl, rfl⟩ | q'
      · exact ⟨rfl, rfl⟩
      · rw [adp_on, hag K' i' q'] at he
        have := hlt K' i' q'
        omega
    · rcases hcase K' i' hi' with ⟨rfl, rfl⟩ | q'
      · rw [adp_on, hag K i q] at he
        have := hlt K i q
        omega
      · rw [hag K i q, hag K' i' q'] at he
        exact hA.1 K i K' i' q q' he
  · rcases hcase K i hi with ⟨rfl, rfl⟩ | q
    · rw [adp_on]
      exact Nat.le_trans (hA.2 0 0 Nat.zero_lt_one) (Nat.le_of_lt (hlt 0 0 Nat.zero_lt_one))
    · rw [hag K i q]; exact hA.2 K i q
  · rcases hcase K i hi with ⟨rfl, rfl⟩ | q
    · rw [adp_on]
      have e : xcont g.2 (adp ad 15 (nO σ) H0.size) σ' u τ 15 (nO σ) = .inr (3, [.int w, .ref (ad 12 (ti r)), .int b, .int d, .int x]) := by
        show (.inr (3, [.int (σ' 9 (nO σ)), .ref (adp ad 15 (nO σ) H0.size 12 (ti (σ' 10 (nO σ)))), .int (σ' 11 (nO σ)), .int (σ' 12 (nO σ)), .int (σ' 13 (nO σ))]) : va_E) = _
        rw [f9, f10, f11, f12, f13, adp_off ad (by omega)]
      rw [e]; exact hnew
    · rw [hag K i q]
      by_cases e0 : K = 0
      · subst e0
        have : i = 0 := Nat.lt_one_iff.mp q
        subst this
        have e : xcont g.2 (adp ad 15 (nO σ) H0.size) σ' u τ 0 0 = .inr (8, [.ref (ad 1 0), .ref (ad 2 0), .ref (ad 3 0), .ref (ad 4 0), .ref (ad 5 0), .ref (ad 6 0), .ref (ad 7 0), .int (σ 1 0), .int (σ 2 0 + 1), .int (σ 3 0), .int (σ 4 0)]) := by
          show (.inr (8, [.ref (adp ad 15 (nO σ) H0.size 1 0), .ref (adp ad 15 (nO σ) H0.size 2 0), .ref (adp ad 15 (nO σ) H0.size 3 0), .ref (adp ad 15 (nO σ) H0.size 4 0), .ref (adp ad 15 (nO σ) H0.size 5 0), .ref (adp ad 15 (nO σ) H0.size 6 0), .ref (adp ad 15 (nO σ) H0.size 7 0), .int (σ' 1 0), .int (σ' 2 0), .int (σ' 3 0), .int (σ' 4 0)]) : va_E) = _
          rw [hag 1 0 Nat.zero_lt_one, hag 2 0 Nat.zero_lt_one, hag 3 0 Nat.zero_lt_one, hag 4 0 Nat.zero_lt_one, hag 5 0 Nat.zero_lt_one, hag 6 0 Nat.zero_lt_one, hag 7 0 Nat.zero_lt_one, e10, e20, e30, e40]
        rw [e]; exact hobj
      by_cases e4 : K = 2
      · subst e4
        have : i = 0 := Nat.lt_one_iff.mp q
        subst this
        have e : xcont g.2 (adp ad 15 (nO σ) H0.size) σ' u τ 2 0 = .inl (g.2 4, 6, .inr (.inr (.inr (.inr (va_up (refA ad 15 (nO σ)) (nO σ) (some H0.size)))))) := by
          show (.inl (g.2 4, 6, .inr (.inr (.inr (.inr (refA (adp ad 15 (nO σ) H0.size) 15 (nO σ')))))) : va_E) = _
          rw [hnO]
          exact congrArg (fun z => (.inl (g.2 4, 6, .inr (.inr (.inr (.inr z)))) : va_E)) (refA_up (n := nO σ) (fun i hi => hag 15 i hi) (adp_on ad 15 (nO σ) H0.size)).symm
        rw [e]; exact harr
      · have k9 := (hX K i q).kept (hold _ (hlt K i q) (fun z => e4 (hA.1 K i 2 0 q Nat.zero_lt_one z).1) (fun z => e0 (hA.1 K i 0 0 q Nat.zero_lt_one z).1))
        rw [← cont_ad g.2 hI hag q] at k9
        by_cases hK : 4 < K
        · rw [cont_old g.2 (σ := σ) (σ' := σ') (fun j _ => hgen 5 j (by decide) (by decide) (by omega)) (funext fun j => hgen 6 j (by decide) (by decide) (by omega)) (funext fun j => hgen 7 j (by decide) (by decide) (by omega)) (funext fun j => hgen 16 j (by decide) (by decide) (by omega)) (fun k h1 h2 j hj => hgen k j (by omega) (by omega) (by omega)) (fun k h1 j hj => hgen k j (by omega) (by omega) (by omega)) (fun k h1 h2 j hj => hgen k j (by omega) (by omega) (by omega)) q hK]
          exact k9
        · have : K = 1 ∨ K = 3 ∨ K = 4 := by omega
          have e1 : ∀ z, xcont g.2 z σ' u τ 1 i = xcont g.2 z σ u τ 1 i := fun z => congrArg (fun n => (.inl (g.2 5, 8, .inr (.inr (.inr (.inr (refA z 12 n))))) : va_E)) hnR
          have e2 : ∀ z, xcont g.2 z σ' u τ 4 i = xcont g.2 z σ u τ 4 i := fun z => congrArg (fun n => (.inl (g.2 6, 4, .inr (.inr (.inr (.inr (refA z 18 n))))) : va_E)) hnV
          have e3 : ∀ z, xcont g.2 z σ' u τ 3 i = xcont g.2 z σ u τ 3 i := fun z => congrArg (fun n => (.inl (g.2 3, 24, .inr (.inr (.inr (.inr (refA z 16 n))))) : va_E)) hnL
          rcases this with rfl | rfl | rfl
          · rw [e1]; exact k9
          · rw [e3]; exact k9
          · rw [e2]; exact k9
