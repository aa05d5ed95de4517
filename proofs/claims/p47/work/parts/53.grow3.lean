/-! ===== growth by several cells at once ===== -/
def adg (ad : Nat → Nat → Nat) (nw : Nat → Bool) (ao : Nat → Nat) (n s0 : Nat) : Nat → Nat → Nat := fun K i => if nw K = true ∧ i = n then s0 + ao K else ad K i
theorem adg_on (ad : Nat → Nat → Nat) {nw : Nat → Bool} (ao : Nat → Nat) (n s0 : Nat) {K : Nat} (h : nw K = true) : adg ad nw ao n s0 K n = s0 + ao K := if_pos ⟨h, rfl⟩
theorem adg_off (ad : Nat → Nat → Nat) {nw : Nat → Bool} (ao : Nat → Nat) {n s0 K i : Nat} (h : ¬ (nw K = true ∧ i = n)) : adg ad nw ao n s0 K i = ad K i := if_neg h
theorem grow_gen {g : EG} {lo s0 n n0 : Nat} (hn0 : n0 ≤ s0) {ad : Nat → Nat → Nat} {σ σ' τ : Sg} {u : Nat → Int64} {H : Heap} {nw : Nat → Bool} {ao : Nat → Nat} (hinj : ∀ K K', nw K = true → nw K' = true → ao K = ao K' → K = K') (hn : ∀ K, nw K = true → xcnt σ K = n ∧ xcnt σ' K = n + 1) (ho : ∀ K, ¬ nw K = true → xcnt σ' K = xcnt σ K) (hA : XA lo ad σ) (hlt : ∀ K i, i < xcnt σ K → ad K i < s0)
    (hnew : ∀ K, nw K = true → va_at g.1 vwCl (s0 + ao K, xcont g.2 (adg ad nw ao n s0) σ' u τ K n) H) (hold : ∀ K i, i < xcnt σ K → va_at g.1 vwCl (ad K i, xcont g.2 (adg ad nw ao n s0) σ' u τ K i) H) : XG g lo n0 ad σ σ' u τ H := by
  have hag : ∀ K i, i < xcnt σ K → adg ad nw ao n s0 K i = ad K i := fun K i hi => adg_off ad ao (fun q => by
    obtain ⟨q1, rfl⟩ := q
    rw [(hn K q1).1] at hi
    exact Nat.lt_irrefl _ hi)
  have hcase : ∀ K i, i < xcnt σ' K → (nw K = true ∧ i = n) ∨ i < xcnt σ K := by
    intro K i hi
    by_cases hK : nw K = true
    · rw [(hn K hK).2] at hi
      by_cases e : i = n
      · exact Or.inl ⟨hK, e⟩
      · exact Or.inr (by rw [(hn K hK).1]; omega)
    · rw [ho K hK] at hi; exact Or.inr hi
  refine ⟨adg ad nw ao n s0, hag, ⟨fun K i K' i' hi hi' he => ?_, fun K i hi => ?_⟩, fun K i hi => ?_, fun K i h1 h2 => (hcase K i h1).elim (fun q => by obtain ⟨q1, rfl⟩ := q; rw [adg_on ad ao _ s0 q1]; omega) (fun q => absurd q h2)⟩
  · rcases hcase K i hi with ⟨q, rfl⟩ | q
    · rcases hcase K' i' hi' with ⟨q', rfl⟩ | q'
      · rw [adg_on ad ao _ s0 q, adg_on ad ao _ s0 q'] at he
        exact ⟨hinj K K' q q' (by omega), rfl⟩
      · rw [adg_on ad ao _ s0 q, hag K' i' q'] at he
        have := hlt K' i' q'
        omega
    · rcases hcase K' i' hi' with ⟨q', rfl⟩ | q'
      · rw [adg_on ad ao _ s0 q', hag K i q] at he
        have := hlt K i q
        omega
      · rw [hag K i q, hag K' i' q'] at he
        exact hA.1 K i K' i' q q' he
  · rcases hcase K i hi with ⟨q, rfl⟩ | q
    · rw [adg_on ad ao _ s0 q]
      exact Nat.le_trans (hA.2 0 0 Nat.zero_lt_one) (Nat.le_trans (Nat.le_of_lt (hlt 0 0 Nat.zero_lt_one)) (Nat.le_add_right _ _))
    · rw [hag K i q]; exact hA.2 K i q
  · rcases hcase K i hi with ⟨q, rfl⟩ | q
    · rw [adg_on ad ao _ s0 q]; exact hnew K q
    · rw [hag K i q]; exact hold K i q
abbrev G_addLot (σ : Sg) (o x : Int32) : Sg := up (up (up (up (up (up σ 0 0 0) 14 (nL σ) o) 15 (nL σ) x) 21 (nL σ) 119) 20 (nL σ) (-1)) 3 0 (σ 3 0 + 1)
theorem G_addLot_off {σ : Sg} {o x : Int32} {k j : Nat} (h0 : k ≠ 0) (h4 : k ≠ 3) (h : ¬ ((k = 14 ∨ k = 15 ∨ k = 20 ∨ k = 21) ∧ j = nL σ)) : G_addLot σ o x k j = σ k j :=
  (up_off _ _ (by omega)).trans ((up_off _ _ (by omega)).trans ((up_off _ _ (by omega)).trans ((up_off _ _ (by omega)).trans ((up_off _ _ (by omega)).trans (up_off _ _ (by omega))))))
abbrev nwL : Nat → Bool := fun K => K == 16 || K == 17
abbrev aoL : Nat → Nat := fun K => if K = 17 then 1 else 0
theorem grow_lot {g : EG} {lo : Nat} {ad : Nat → Nat → Nat} {σ τ : Sg} {u : Nat → Int64} {H0 H : Heap} {o x : Int32} {n0 : Nat} (hn0 : n0 ≤ H0.size) (hI : INV σ) (hA : XA lo ad σ) (hX : XR g ad σ u τ H0) (hv : nL σ < 24) (ko : vp_in o (nO σ))
    (hnew : va_at g.1 vwCl (H0.size, .inr (2, [.int (σ 3 0), .ref (ad 15 (ti o)), .int x, .ref (H0.size + 1), .int 119, .null, .int 0, .int 0, .null])) H) (hnew2 : va_at g.1 vwCl (H0.size + 1, .inr (6, [.int 0, .int 0, .int 0])) H)
    (harr : va_at g.1 vwCl (ad 3 0, .inl (g.2 3, 24, .inr (.inr (.inr (.inr (va_up (refA ad 16 (nL σ)) (nL σ) (some H0.size))))))) H)
    (hobj : va_at g.1 vwCl (ad 0 0, .inr (8, [.ref (ad 1 0), .ref (ad 2 0), .ref (ad 3 0), .ref (ad 4 0), .ref (ad 5 0), .ref (ad 6 0), .ref (ad 7 0), .int (σ 1 0), .int (σ 2 0), .int (σ 3 0 + 1), .int (σ 4 0)])) H)
    (hold : ∀ q, q < H0.size → q ≠ ad 3 0 → q ≠ ad 0 0 → H[q]? = H0[q]?) : XG g lo n0 ad σ (G_addLot σ o x) u τ H := by
  have hc : ¬ σ 3 0 = nI 24 := fun q => by
    have : nL σ = 24 := by show ti (σ 3 0) = 24; rw [q]; decide
    omega
  obtain ⟨-, c2, -⟩ := cnt_next hI.1.2.2.1 (by decide) hc
  have e30 : G_addLot σ o x 3 0 = σ 3 0 + 1 := up_on _ _
  have e10 : G_addLot σ o x 1 0 = σ 1 0 := G_addLot_off (by decide) (by decide) (by omega)
  have e20 : G_addLot σ o x 2 0 = σ 2 0 := G_addLot_off (by decide) (by decide) (by omega)
  have e40 : G_addLot σ o x 4 0 = σ 4 0 := G_addLot_off (by decide) (by decide) (by omega)
  have f20 : G_addLot σ o x 20 (nL σ) = -1 := (up_off _ _ (by omega)).trans (up_on _ _)
  have f21 : G_addLot σ o x 21 (nL σ) = 119 := (up_off _ _ (by omega)).trans ((up_off _ _ (by omega)).trans (up_on _ _))
  have f15 : G_addLot σ o x 15 (nL σ) = x := (up_off _ _ (by omega)).trans ((up_off _ _ (by omega)).trans ((up_off _ _ (by omega)).trans (up_on _ _)))
  have f14 : G_addLot σ o x 14 (nL σ) = o := (up_off _ _ (by omega)).trans ((up_off _ _ (by omega)).trans ((up_off _ _ (by omega)).trans ((up_off _ _ (by omega)).trans (up_on _ _))))
  have hnR : nR (G_addLot σ o x) = nR σ := congrArg ti e10
  have hnO : nO (G_addLot σ o x) = nO σ := congrArg ti e20
  have hnV : nV (G_addLot σ o x) = nV σ := congrArg ti e40
  have hnL : nL (G_addLot σ o x) = nL σ + 1 := (congrArg ti e30).trans c2
  have hgen : ∀ k j, k ≠ 0 → k ≠ 3 → ¬ ((k = 14 ∨ k = 15 ∨ k = 20 ∨ k = 21) ∧ j = nL σ) → G_addLot σ o x k j = σ k j := fun k j h1 h2 h3 => G_addLot_off h1 h2 h3
  obtain ⟨σ', hσ'⟩ : ∃ z, z = G_addLot σ o x := ⟨_, rfl⟩
  rw [← hσ'] at e40 e10 e20 e30 f14 f15 f20 f21 hnR hnO hnL hnV hgen ⊢
  have hlt : ∀ K i, i < xcnt σ K → ad K i < H0.size := fun K i hi => (hX K i hi).lt
  have hnw : ∀ K, nwL K = true → K = 16 ∨ K = 17 := by
    intro K h
    simpa [nwL] using h
  have t16 := hI.2.2.2.2.2.2.2.2.1.2.1
  have t18 := hI.2.2.2.2.2.2.2.2.1.2.2.1 (nL σ) (Nat.le_refl _) hv
  have hag : ∀ K i, i < xcnt σ K → adg ad nwL aoL (nL σ) H0.size K i = ad K i := fun K i hi => adg_off ad aoL (fun q => by
    obtain ⟨q1, rfl⟩ := q
    rcases hnw K q1 with rfl | rfl <;> exact Nat.lt_irrefl _ (show nL σ < nL σ from hi))
  refine grow_gen (s0 := H0.size) (n := nL σ) (nw := nwL) (ao := aoL) hn0 ?_ ?_ ?_ hA hlt ?_ ?_
  · intro K K' h h' e
    rcases hnw K h with rfl | rfl <;> rcases hnw K' h' with rfl | rfl <;> first | rfl | exact absurd e (by decide)
  · intro K h
    rcases hnw K h with rfl | rfl
    · exact ⟨rfl, hnL⟩
    · exact ⟨rfl, hnL⟩
  · intro K hK
    unfold xcnt
    rw [hnR, hnO, hnV]
    split <;> first | rfl | exact absurd rfl hK
  · intro K h
    rcases hnw K h with rfl | rfl
    · have e : xcont g.2 (adg ad nwL aoL (nL σ) H0.size) σ' u τ 16 (nL σ) = .inr (2, [.int (σ 3 0), .ref (ad 15 (ti o)), .int x, .ref (H0.size + 1), .int 119, .null, .int 0, .int 0, .null]) := by
        show (.inr (2, [.int (nI (nL σ)), .ref (adg ad nwL aoL (nL σ) H0.size 15 (ti (σ' 14 (nL σ)))), .int (σ' 15 (nL σ)), .ref (adg ad nwL aoL (nL σ) H0.size 17 (nL σ)), .int (σ' 21 (nL σ)), va_rf (if σ' 21 (nL σ) = 119 then none else some (adg ad nwL aoL (nL σ) H0.size 18 (ti (σ' 17 (nL σ))))), .int (σ' 18 (nL σ)), .int (σ' 19 (nL σ)), va_rf (if σ' 20 (nL σ) = -1 then none else some (adg ad nwL aoL (nL σ) H0.size 18 (ti (σ' 20 (nL σ)))))]) : va_E) = _
        rw [f14, f15, f21, f20, if_pos rfl, if_pos rfl, hgen 18 _ (by decide) (by decide) (by omega), hgen 19 _ (by decide) (by decide) (by omega), t18.1, t18.2, ← hI.l.2, hag 15 _ (vin_lt ko), adg_on ad aoL (nL σ) H0.size (K := 17) rfl]
        rfl
      rw [e]; exact hnew
    · have e : xcont g.2 (adg ad nwL aoL (nL σ) H0.size) σ' u τ 17 (nL σ) = .inr (6, [.int 0, .int 0, .int 0]) := by
        show (.inr (6, [.int (σ' 16 (3 * nL σ)), .int (σ' 16 (3 * nL σ + 1)), .int (σ' 16 (3 * nL σ + 2))]) : va_E) = _
        rw [hgen 16 _ (by decide) (by decide) (by omega), hgen 16 _ (by decide) (by decide) (by omega), hgen 16 _ (by decide) (by decide) (by omega), t16 _ (by omega) (by omega), t16 _ (by omega) (by omega), t16 _ (by omega) (by omega)]
      rw [e]; exact hnew2
  · intro K i q
    by_cases e0 : K = 0
    · subst e0
      have : i = 0 := Nat.lt_one_iff.mp q
      subst this
      have e : xcont g.2 (adg ad nwL aoL (nL σ) H0.size) σ' u τ 0 0 = .inr (8, [.ref (ad 1 0), .ref (ad 2 0), .ref (ad 3 0), .ref (ad 4 0), .ref (ad 5 0), .ref (ad 6 0), .ref (ad 7 0), .int (σ 1 0), .int (σ 2 0), .int (σ 3 0 + 1), .int (σ 4 0)]) := by
        show (.inr (8, [.ref (adg ad nwL aoL (nL σ) H0.size 1 0), .ref (adg ad nwL aoL (nL σ) H0.size 2 0), .ref (adg ad nwL aoL (nL σ) H0.size 3 0), .ref (adg ad nwL aoL (nL σ) H0.size 4 0), .ref (adg ad nwL aoL (nL σ) H0.size 5 0), .ref (adg ad nwL aoL (nL σ) H0.size 6 0), .ref (adg ad nwL aoL (nL σ) H0.size 7 0), .int (σ' 1 0), .int (σ' 2 0), .int (σ' 3 0), .int (σ' 4 0)]) : va_E) = _
        rw [hag 1 0 Nat.zero_lt_one, hag 2 0 Nat.zero_lt_one, hag 3 0 Nat.zero_lt_one, hag 4 0 Nat.zero_lt_one, hag 5 0 Nat.zero_lt_one, hag 6 0 Nat.zero_lt_one, hag 7 0 Nat.zero_lt_one, e10, e20, e30, e40]
      rw [e]; exact hobj
    by_cases e4 : K = 3
    · subst e4
      have : i = 0 := Nat.lt_one_iff.mp q
      subst this
      have e : xcont g.2 (adg ad nwL aoL (nL σ) H0.size) σ' u τ 3 0 = .inl (g.2 3, 24, .inr (.inr (.inr (.inr (va_up (refA ad 16 (nL σ)) (nL σ) (some H0.size)))))) := by
        show (.inl (g.2 3, 24, .inr (.inr (.inr (.inr (refA (adg ad nwL aoL (nL σ) H0.size) 16 (nL σ')))))) : va_E) = _
        rw [hnL]
        exact congrArg (fun z => (.inl (g.2 3, 24, .inr (.inr (.inr (.inr z)))) : va_E)) (refA_up (n := nL σ) (fun i hi => hag 16 i hi) (adg_on ad aoL (nL σ) H0.size (K := 16) rfl)).symm
      rw [e]; exact harr
    · have k9 := (hX K i q).kept (hold _ (hlt K i q) (fun z => e4 (hA.1 K i 3 0 q Nat.zero_lt_one z).1) (fun z => e0 (hA.1 K i 0 0 q Nat.zero_lt_one z).1))
      rw [← cont_ad g.2 hI hag q] at k9
      by_cases hK : 4 < K
      · rw [cont_old g.2 (σ := σ) (σ' := σ') (fun j _ => hgen 5 j (by decide) (by decide) (by omega)) (funext fun j => hgen 6 j (by decide) (by decide) (by omega)) (funext fun j => hgen 7 j (by decide) (by decide) (by omega)) (funext fun j => hgen 16 j (by decide) (by decide) (by omega)) (fun k h1 h2 j hj => hgen k j (by omega) (by omega) (by omega)) (fun k h1 j hj => hgen k j (by omega) (by omega) (by omega)) (fun k h1 h2 j hj => hgen k j (by omega) (by omega) (by omega)) q hK]
        exact k9
      · have : K = 1 ∨ K = 2 ∨ K = 4 := by omega
        have e1 : ∀ z, xcont g.2 z σ' u τ 1 i = xcont g.2 z σ u τ 1 i := fun z => congrArg (fun n => (.inl (g.2 5, 8, .inr (.inr (.inr (.inr (refA z 12 n))))) : va_E)) hnR
        have e2 : ∀ z, xcont g.2 z σ' u τ 2 i = xcont g.2 z σ u τ 2 i := fun z => congrArg (fun n => (.inl (g.2 4, 6, .inr (.inr (.inr (.inr (refA z 15 n))))) : va_E)) hnO
        have e3 : ∀ z, xcont g.2 z σ' u τ 4 i = xcont g.2 z σ u τ 4 i := fun z => congrArg (fun n => (.inl (g.2 6, 4, .inr (.inr (.inr (.inr (refA z 18 n))))) : va_E)) hnV
        rcases this with rfl | rfl | rfl
        · rw [e1]; exact k9
        · rw [e2]; exact k9
        · rw [e3]; exact k9
