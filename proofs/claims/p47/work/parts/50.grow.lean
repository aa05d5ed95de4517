/-! ===== the class grows: new cells, new addresses ===== -/
theorem refA_cg {ad ad' : Nat → Nat → Nat} {K n : Nat} (h : ∀ i, i < n → ad' K i = ad K i) : refA ad' K n = refA ad K n := by
  funext j
  unfold refA
  by_cases q : j < n
  · rw [if_pos q, if_pos q, h j q]
  · rw [if_neg q, if_neg q]
theorem cont_ad (cy : Nat → ClassId) {ad ad' : Nat → Nat → Nat} {σ τ : Sg} {u : Nat → Int64} {K i : Nat} (hI : INV σ) (h : ∀ K i, i < xcnt σ K → ad' K i = ad K i) (hi : i < xcnt σ K) : xcont cy ad' σ u τ K i = xcont cy ad σ u τ K i := by
  unfold xcont
  split <;> (try rfl)
  · rw [h 1 0 Nat.zero_lt_one, h 2 0 Nat.zero_lt_one, h 3 0 Nat.zero_lt_one, h 4 0 Nat.zero_lt_one, h 5 0 Nat.zero_lt_one, h 6 0 Nat.zero_lt_one, h 7 0 Nat.zero_lt_one]
  · rw [refA_cg (n := nR σ) (fun i hi => h 12 i hi)]
  · rw [refA_cg (n := nO σ) (fun i hi => h 15 i hi)]
  · rw [refA_cg (n := nL σ) (fun i hi => h 16 i hi)]
  · rw [refA_cg (n := nV σ) (fun i hi => h 18 i hi)]
  · rw [h 8 0 Nat.zero_lt_one, h 9 0 Nat.zero_lt_one, h 10 0 Nat.zero_lt_one, h 11 0 Nat.zero_lt_one]
  · rw [h 13 i hi, h 14 i hi]
  · rw [h 12 _ (vin_lt (hI.2.1 i hi))]
  · have e1 : (if σ 21 i = 119 then none else some (ad' 18 (ti (σ 17 i)))) = if σ 21 i = 119 then none else some (ad 18 (ti (σ 17 i))) := by
      by_cases q : σ 21 i = 119
      · rw [if_pos q, if_pos q]
      · rw [if_neg q, if_neg q, h 18 _ (vin_lt (hI.2.2.2.2.2.1 i hi q))]
    have e2 : (if σ 20 i = -1 then none else some (ad' 18 (ti (σ 20 i)))) = if σ 20 i = -1 then none else some (ad 18 (ti (σ 20 i))) := by
      by_cases q : σ 20 i = -1
      · rw [if_pos q, if_pos q]
      · rw [if_neg q, if_neg q, h 18 _ (vin_lt (hI.2.2.2.2.2.2.1 i hi q).1)]
    rw [h 15 _ (vin_lt (hI.2.2.1 i hi)), h 17 i hi, e1, e2]
theorem cont_old (cy : Nat → ClassId) {ad : Nat → Nat → Nat} {σ σ' τ : Sg} {u : Nat → Int64} {K i : Nat} (h5 : ∀ j, j < 3 * nR σ → σ' 5 j = σ 5 j) (h6 : σ' 6 = σ 6) (h7 : σ' 7 = σ 7) (h16 : σ' 16 = σ 16) (hO : ∀ k, 9 ≤ k → k ≤ 13 → ∀ j, j < nO σ → σ' k j = σ k j) (hL : ∀ k, (k = 14 ∨ k = 15 ∨ (17 ≤ k ∧ k ≤ 21)) → ∀ j, j < nL σ → σ' k j = σ k j) (hV : ∀ k, 22 ≤ k → k ≤ 26 → ∀ j, j < nV σ → σ' k j = σ k j) (hi : i < xcnt σ K) (hK : 4 < K) : xcont cy ad σ' u τ K i = xcont cy ad σ u τ K i := by
  unfold xcont
  split <;> (try rfl) <;> (try exact absurd hK (by decide))
  · rw [h7]
  · have hi : i < nR σ := hi
    rw [h5 _ (by omega), h5 _ (by omega), h5 _ (by omega)]
  · rw [h6]
  · rw [hO 9 (by decide) (by decide) i hi, hO 10 (by decide) (by decide) i hi, hO 11 (by decide) (by decide) i hi, hO 12 (by decide) (by decide) i hi, hO 13 (by decide) (by decide) i hi]
  · rw [hL 14 (by decide) i hi, hL 15 (by decide) i hi, hL 17 (by decide) i hi, hL 18 (by decide) i hi, hL 19 (by decide) i hi, hL 20 (by decide) i hi, hL 21 (by decide) i hi]
  · rw [h16]
  · rw [hV 22 (by decide) (by decide) i hi, hV 23 (by decide) (by decide) i hi, hV 24 (by decide) (by decide) i hi, hV 25 (by decide) (by decide) i hi, hV 26 (by decide) (by decide) i hi]
/-- an address for a new cell -/
def adp (ad : Nat → Nat → Nat) (K i a : Nat) : Nat → Nat → Nat := fun K' i' => if K' = K ∧ i' = i then a else ad K' i'
theorem adp_on (ad : Nat → Nat → Nat) (K i a : Nat) : adp ad K i a K i = a := if_pos ⟨rfl, rfl⟩
theorem adp_off (ad : Nat → Nat → Nat) {K i a K' i' : Nat} (h : ¬ (K' = K ∧ i' = i)) : adp ad K i a K' i' = ad K' i' := if_neg h
theorem refA_up {ad ad' : Nat → Nat → Nat} {K n a : Nat} (h : ∀ i, i < n → ad' K i = ad K i) (ha : ad' K n = a) : va_up (refA ad K n) n (some a) = refA ad' K (n + 1) := by
  funext j
  show (if j = n then some a else if j < n then some (ad K j) else none) = if j < n + 1 then some (ad' K j) else none
  by_cases e : j = n
  · subst e; rw [if_pos rfl, if_pos (Nat.lt_succ_self _), ha]
  · by_cases q : j < n
    · rw [if_neg e, if_pos q, if_pos (by omega), h j q]
    · rw [if_neg e, if_neg q, if_neg (by omega)]
/-- what an adding call leaves -/
def XG (g : EG) (lo n0 : Nat) (ad : Nat → Nat → Nat) (σ σ' : Sg) (u : Nat → Int64) (τ : Sg) (H : Heap) : Prop := ∃ ad' : Nat → Nat → Nat, (∀ K i, i < xcnt σ K → ad' K i = ad K i) ∧ XA lo ad' σ' ∧ XR g ad' σ' u τ H ∧ ∀ K i, i < xcnt σ' K → ¬ i < xcnt σ K → n0 ≤ ad' K i
abbrev G_addVat (σ : Sg) (x : Int32) : Sg := up (up (up (up (up σ 0 0 0) 22 (nV σ) x) 23 (nV σ) (-1)) 24 (nV σ) (-1)) 4 0 (σ 4 0 + 1)
theorem G_addVat_off {σ : Sg} {x : Int32} {k j : Nat} (h0 : k ≠ 0) (h4 : k ≠ 4) (h : ¬ (22 ≤ k ∧ k ≤ 24 ∧ j = nV σ)) : G_addVat σ x k j = σ k j :=
  (up_off _ _ (by omega)).trans ((up_off _ _ (by omega)).trans ((up_off _ _ (by omega)).trans ((up_off _ _ (by omega)).trans (up_off _ _ (by omega)))))
theorem grow_vat {g : EG} {lo : Nat} {ad : Nat → Nat → Nat} {σ τ : Sg} {u : Nat → Int64} {H0 H : Heap} {x : Int32} {n0 : Nat} (hn0 : n0 ≤ H0.size) (hI : INV σ) (hA : XA lo ad σ) (hX : XR g ad σ u τ H0) (hv : nV σ < 4)
    (hnew : va_at g.1 vwCl (H0.size, .inr (7, [.int (σ 4 0), .int x, .int (-1), .int (-1), .int 0, .int 0])) H)
    (harr : va_at g.1 vwCl (ad 4 0, .inl (g.2 6, 4, .inr (.inr (.inr (.inr (va_up (refA ad 18 (nV σ)) (nV σ) (some H0.size))))))) H)
    (hobj : va_at g.1 vwCl (ad 0 0, .inr (8, [.ref (ad 1 0), .ref (ad 2 0), .ref (ad 3 0), .ref (ad 4 0), .ref (ad 5 0), .ref (ad 6 0), .ref (ad 7 0), .int (σ 1 0), .int (σ 2 0), .int (σ 3 0), .int (σ 4 0 + 1)])) H)
    (hold : ∀ q, q < H0.size → q ≠ ad 4 0 → q ≠ ad 0 0 → H[q]? = H0[q]?) : XG g lo n0 ad σ (G_addVat σ x) u τ H := by
  have hc : ¬ σ 4 0 = nI 4 := fun q => by
    have : nV σ = 4 := by show ti (σ 4 0) = 4; rw [q]; decide
    omega
  obtain ⟨-, c2, -⟩ := cnt_next hI.1.2.2.2 (by decide) hc
  have e40 : G_addVat σ x 4 0 = σ 4 0 + 1 := up_on _ _
  have e10 : G_addVat σ x 1 0 = σ 1 0 := G_addVat_off (by decide) (by decide) (by omega)
  have e20 : G_addVat σ x 2 0 = σ 2 0 := G_addVat_off (by decide) (by decide) (by omega)
  have e30 : G_addVat σ x 3 0 = σ 3 0 := G_addVat_off (by decide) (by decide) (by omega)
  have e22 : G_addVat σ x 22 (nV σ) = x := (up_off _ _ (by omega)).trans ((up_off _ _ (by omega)).trans ((up_off _ _ (by omega)).trans (up_on _ _)))
  have e23 : G_addVat σ x 23 (nV σ) = -1 := (up_off _ _ (by omega)).trans ((up_off _ _ (by omega)).trans (up_on _ _))
  have e24 : G_addVat σ x 24 (nV σ) = -1 := (up_off _ _ (by omega)).trans (up_on _ _)
  have e25 : G_addVat σ x 25 (nV σ) = σ 25 (nV σ) := G_addVat_off (by decide) (by decide) (by omega)
  have e26 : G_addVat σ x 26 (nV σ) = σ 26 (nV σ) := G_addVat_off (by decide) (by decide) (by omega)
  have hnR : nR (G_addVat σ x) = nR σ := congrArg ti e10
  have hnO : nO (G_addVat σ x) = nO σ := congrArg ti e20
  have hnL : nL (G_addVat σ x) = nL σ := congrArg ti e30
  have hnV : nV (G_addVat σ x) = nV σ + 1 := (congrArg ti e40).trans c2
  have hgen : ∀ k j, k ≠ 0 → k ≠ 4 → ¬ (22 ≤ k ∧ k ≤ 24 ∧ j = nV σ) → G_addVat σ x k j = σ k j := fun k j h1 h2 h3 => G_addVat_off h1 h2 h3
  obtain ⟨σ', hσ'⟩ : ∃ z, z = G_addVat σ x := ⟨_, rfl⟩
  rw [← hσ'] at e40 e10 e20 e30 e22 e23 e24 e25 e26 hnR hnO hnL hnV hgen ⊢
  have hlt : ∀ K i, i < xcnt σ K → ad K i < H0.size := fun K i hi => (hX K i hi).lt
  have hag : ∀ K i, i < xcnt σ K → adp ad 18 (nV σ) H0.size K i = ad K i := fun K i hi => adp_off ad (fun q => by
    obtain ⟨rfl, rfl⟩ := q
    exact Nat.lt_irrefl _ (show nV σ < nV σ from hi))
  have hxc : ∀ K, K ≠ 18 → xcnt σ' K = xcnt σ K := by
    intro K hK
    unfold xcnt
    rw [hnR, hnO, hnL]
    split <;> first | rfl | exact absurd rfl hK
  have hcase : ∀ K i, i < xcnt σ' K → (K = 18 ∧ i = nV σ) ∨ i < xcnt σ K := by
    intro K i hi
    by_cases hK : K = 18
    · subst hK
      have hi : i < nV σ' := hi
      rw [hnV] at hi
      by_cases e : i = nV σ
      · exact Or.inl ⟨rfl, e⟩
      · exact Or.inr (show i < nV σ by omega)
    · rw [hxc K hK] at hi; exact Or.inr hi
  refine ⟨adp ad 18 (nV σ) H0.size, hag, ⟨fun K i K' i' hi hi' he => ?_, fun K i hi => ?_⟩, fun K i hi => ?_, fun K i h1 h2 => (hcase K i h1).elim (fun q => by obtain ⟨rfl, rfl⟩ := q; rw [adp_on]; exact hn0) (fun q => absurd q h2)⟩
  · rcases hcase K i hi with ⟨rfl, rfl⟩ | q
    · rcases hcase K' i' hi' with ⟨rfl, rfl⟩ | q'
      · exact ⟨rfl, rfl⟩
      · rw [adp_on, hag K' i' q'] at he
        have := hlt K' i' q'
        omega
    · rcases hcase K' i' hi' with ⟨rfl, rfl⟩ | q'
      · rw [adp_on, hag K i q] at he
        have := hlt K i q
        omega
      · rw [hag K i q, hag K' i' q'] at he
        exact hA.1 K i K' i' q q' he
  · rcases hcase K i hi with ⟨rfl, rfl⟩ | q
    · rw [adp_on]
      exact Nat.le_trans (hA.2 0 0 Nat.zero_lt_one) (Nat.le_of_lt (hlt 0 0 Nat.zero_lt_one))
    · rw [hag K i q]; exact hA.2 K i q
  · rcases hcase K i hi with ⟨rfl, rfl⟩ | q
    · rw [adp_on]
      have t := hI.2.2.2.2.2.2.2.2.1.2.2.2 (nV σ) (Nat.le_refl _) hv
      have e : xcont g.2 (adp ad 18 (nV σ) H0.size) σ' u τ 18 (nV σ) = .inr (7, [.int (σ 4 0), .int x, .int (-1), .int (-1), .int 0, .int 0]) := by
        show (.inr (7, [.int (nI (nV σ)), .int (σ' 22 (nV σ)), .int (σ' 23 (nV σ)), .int (σ' 24 (nV σ)), .int (σ' 25 (nV σ)), .int (σ' 26 (nV σ))]) : va_E) = _
        rw [e22, e23, e24, e25, e26, t.1, t.2, ← hI.v.2]
      rw [e]; exact hnew
    · rw [hag K i q]
      by_cases e0 : K = 0
      · subst e0
        have : i = 0 := Nat.lt_one_iff.mp q
        subst this
        have e : xcont g.2 (adp ad 18 (nV σ) H0.size) σ' u τ 0 0 = .inr (8, [.ref (ad 1 0), .ref (ad 2 0), .ref (ad 3 0), .ref (ad 4 0), .ref (ad 5 0), .ref (ad 6 0), .ref (ad 7 0), .int (σ 1 0), .int (σ 2 0), .int (σ 3 0), .int (σ 4 0 + 1)]) := by
          show (.inr (8, [.ref (adp ad 18 (nV σ) H0.size 1 0), .ref (adp ad 18 (nV σ) H0.size 2 0), .ref (adp ad 18 (nV σ) H0.size 3 0), .ref (adp ad 18 (nV σ) H0.size 4 0), .ref (adp ad 18 (nV σ) H0.size 5 0), .ref (adp ad 18 (nV σ) H0.size 6 0), .ref (adp ad 18 (nV σ) H0.size 7 0), .int (σ' 1 0), .int (σ' 2 0), .int (σ' 3 0), .int (σ' 4 0)]) : va_E) = _
          rw [hag 1 0 Nat.zero_lt_one, hag 2 0 Nat.zero_lt_one, hag 3 0 Nat.zero_lt_one, hag 4 0 Nat.zero_lt_one, hag 5 0 Nat.zero_lt_one, hag 6 0 Nat.zero_lt_one, hag 7 0 Nat.zero_lt_one, e10, e20, e30, e40]
        rw [e]; exact hobj
      by_cases e4 : K = 4
      · subst e4
        have : i = 0 := Nat.lt_one_iff.mp q
        subst this
        have e : xcont g.2 (adp ad 18 (nV σ) H0.size) σ' u τ 4 0 = .inl (g.2 6, 4, .inr (.inr (.inr (.inr (va_up (refA ad 18 (nV σ)) (nV σ) (some H0.size)))))) := by
          show (.inl (g.2 6, 4, .inr (.inr (.inr (.inr (refA (adp ad 18 (nV σ) H0.size) 18 (nV σ')))))) : va_E) = _
          rw [hnV]
          exact congrArg (fun z => (.inl (g.2 6, 4, .inr (.inr (.inr (.inr z)))) : va_E)) (refA_up (n := nV σ) (fun i hi => hag 18 i hi) (adp_on ad 18 (nV σ) H0.size)).symm
        rw [e]; exact harr
      · have k9 := (hX K i q).kept (hold _ (hlt K i q) (fun z => e4 (hA.1 K i 4 0 q Nat.zero_lt_one z).1) (fun z => e0 (hA.1 K i 0 0 q Nat.zero_lt_one z).1))
        rw [← cont_ad g.2 hI hag q] at k9
        by_cases hK : 4 < K
        · rw [cont_old g.2 (σ := σ) (σ' := σ') (fun j _ => hgen 5 j (by decide) (by decide) (by omega)) (funext fun j => hgen 6 j (by decide) (by decide) (by omega)) (funext fun j => hgen 7 j (by decide) (by decide) (by omega)) (funext fun j => hgen 16 j (by decide) (by decide) (by omega)) (fun k h1 h2 j hj => hgen k j (by omega) (by omega) (by omega)) (fun k h1 j hj => hgen k j (by omega) (by omega) (by omega)) (fun k h1 h2 j hj => hgen k j (by omega) (by omega) (by omega)) q hK]
          exact k9
        · have : K = 1 ∨ K = 2 ∨ K = 3 := by omega
          have e1 : ∀ z, xcont g.2 z σ' u τ 1 i = xcont g.2 z σ u τ 1 i := fun z => congrArg (fun n => (.inl (g.2 5, 8, .inr (.inr (.inr (.inr (refA z 12 n))))) : va_E)) hnR
          have e2 : ∀ z, xcont g.2 z σ' u τ 2 i = xcont g.2 z σ u τ 2 i := fun z => congrArg (fun n => (.inl (g.2 4, 6, .inr (.inr (.inr (.inr (refA z 15 n))))) : va_E)) hnO
          have e3 : ∀ z, xcont g.2 z σ' u τ 3 i = xcont g.2 z σ u τ 3 i := fun z => congrArg (fun n => (.inl (g.2 3, 24, .inr (.inr (.inr (.inr (refA z 16 n))))) : va_E)) hnL
          rcases this with rfl | rfl | rfl
          · rw [e1]; exact k9
          · rw [e2]; exact k9
          · rw [e3]; exact k9
theorem XR.more {g : EG} {ad : Nat → Nat → Nat} {σ τ : Sg} {u : Nat → Int64} {H H1 : Heap} (h : XR g ad σ u τ H) (hk : ∀ q, q < H.size → H1[q]? = H[q]?) : XR g ad σ u τ H1 := fun K i hi => (h K i hi).kept (hk _ (h K i hi).lt)
theorem cnt_ge0 {σ : Sg} {k M : Nat} (h : CN σ k M) (hM : M ≤ 1000) : ¬ σ k 0 < 0 := by
  obtain ⟨n, h1, h2⟩ := h
  rw [h2, ltI, nI_toInt (by omega)]
  have e0 : (0 : Int32).toInt = 0 := by decide
  omega
theorem cnt_ltM {σ : Sg} {k M : Nat} (h : CN σ k M) (hM : M ≤ 1000) (c : σ k 0 < nI M) : ¬ σ k 0 = nI M ∧ ti (σ k 0) < M := by
  obtain ⟨n, h1, h2⟩ := h
  have e : ti (σ k 0) = n := by rw [h2]; exact ti_nI (by omega)
  rw [h2, ltI, nI_toInt (by omega), nI_toInt (by omega)] at c
  refine ⟨fun q => ?_, by omega⟩
  have := congrArg ti (h2.symm.trans q)
  rw [show ti (nI n) = n from ti_nI (by omega), show ti (nI M) = M from ti_nI (by omega)] at this
  omega
theorem cnt_geM {σ : Sg} {k M : Nat} (h : CN σ k M) (hM : M ≤ 1000) (c : ¬ σ k 0 < nI M) : σ k 0 = nI M := by
  obtain ⟨n, h1, h2⟩ := h
  rw [h2, ltI, nI_toInt (by omega), nI_toInt (by omega)] at c
  rw [h2, show n = M by omega]
theorem vp_in_cnt {x : Int32} {n M : Nat} (h : n < M) (hM : M ≤ 1000) (hn : ti x = n := by rfl) (h0 : ¬ x < 0 := by assumption) : vp_in x M := fun q => q.elim h0 (fun q => by
  have : M ≤ ti x := q
  omega)
