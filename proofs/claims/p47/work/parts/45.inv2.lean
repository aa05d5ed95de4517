/-! ===== every call keeps the invariant ===== -/
theorem cnt_next {σ : Sg} {k M : Nat} (h : CN σ k M) (hM : M ≤ 1000) (c : ¬ σ k 0 = nI M) : ti (σ k 0) + 1 ≤ M ∧ ti (σ k 0 + 1) = ti (σ k 0) + 1 ∧ σ k 0 + 1 = nI (ti (σ k 0) + 1) := by
  obtain ⟨n, h1, h2⟩ := h
  have e : ti (σ k 0) = n := by rw [h2]; exact ti_nI (by omega)
  have hn : n ≠ M := fun q => c (by rw [h2, q])
  rw [e, h2, nI_1]
  exact ⟨by omega, ti_nI (by omega), rfl⟩
theorem sh_in {x : Int32} (h : isP x 0 20) : vp_in x 21 := (isP_in (x := x) (k := 21) (by decide)).mp h
theorem upd_all {f : Nat → Int32} {i : Nat} {x : Int32} (h : ∀ j, vp_in (f j) 21) (hx : vp_in x 21) : ∀ j, vp_in (upd f i x j) 21 := fun j => by
  unfold upd
  split
  · exact hx
  · exact h j
theorem upd_ne (f : Nat → Int32) {i j : Nat} (x : Int32) (h : j ≠ i) : upd f i x j = f j := if_neg h
theorem upd_eq (f : Nat → Int32) (i : Nat) (x : Int32) : upd f i x i = x := if_pos rfl
theorem sum01_le {f g : Nat → Int32} (hf : ∀ j, f j = 0 ∨ f j = 1) (hg : ∀ j, g j = 0 ∨ g j = 1) : ∀ n, (∀ j, j < n → f j = 1 → g j = 1) → ∃ a b, a ≤ b ∧ b ≤ n ∧ sumF f n = nI a ∧ sumF g n = nI b
  | 0, _ => ⟨0, 0, Nat.le_refl _, Nat.le_refl _, rfl, rfl⟩
  | n + 1, h => by
    obtain ⟨a, b, h1, h2, h3, h4⟩ := sum01_le hf hg n (fun j hj => h j (by omega))
    rw [sumF, sumF, h3, h4]
    rcases hf n with q | q
    · rcases hg n with q2 | q2
      · exact ⟨a, b, h1, by omega, by rw [q, Int32.add_zero], by rw [q2, Int32.add_zero]⟩
      · exact ⟨a, b + 1, by omega, by omega, by rw [q, Int32.add_zero], by rw [q2, nI_1]⟩
    · exact ⟨a + 1, b + 1, by omega, by omega, by rw [q, nI_1], by rw [h n (by omega) q, nI_1]⟩
theorem inPlan_le {σ σ' : Sg} {v : Int32} (hn : nL σ' = nL σ) (hb : nL σ ≤ 24) (h : ∀ j, j < nL σ → σ' 20 j = v → σ 20 j = v) : (f_inPlan σ' v).toInt ≤ (f_inPlan σ v).toInt := by
  unfold f_inPlan
  rw [hn]
  obtain ⟨a, b, h1, h2, h3, h4⟩ := sum01_le (f := fun j => if σ' 20 j = v then 1 else 0) (g := fun j => if σ 20 j = v then 1 else 0) (fun j => by by_cases q : σ' 20 j = v <;> simp [q]) (fun j => by by_cases q : σ 20 j = v <;> simp [q]) (nL σ) (fun j hj q => by
    by_cases q2 : σ' 20 j = v
    · exact if_pos (h j hj q2)
    · rw [if_neg q2] at q; exact absurd q (by decide))
  rw [h3, h4, nI_toInt (by omega), nI_toInt (by omega)]
  omega
theorem sum_up1 {r : Nat → Int32} {i : Nat} {v : Int32} (h : ¬ r i = v) : ∀ n, sumF (fun j => if upd r i v j = v then 1 else 0) n = sumF (fun j => if r j = v then 1 else 0) n + (if i < n then 1 else 0)
  | 0 => by simp [sumF]
  | n + 1 => by
    rw [sumF, sumF, sum_up1 h n]
    by_cases e : n = i
    · subst e
      rw [upd_eq, if_pos (rfl : v = v), if_neg (Nat.lt_irrefl n), if_neg h, if_pos (Nat.lt_succ_self n), Int32.add_zero]
      first | done | rw [Int32.add_zero]
    · have e1 : (if i < n + 1 then (1 : Int32) else 0) = if i < n then 1 else 0 := by
        by_cases q : i < n
        · rw [if_pos q, if_pos (by omega)]
        · rw [if_neg q, if_neg (by omega)]
      rw [upd_ne r v e, e1]
      generalize (if i < n then (1 : Int32) else 0) = D
      generalize (if r n = v then (1 : Int32) else 0) = A
      rw [Int32.add_assoc, Int32.add_comm D A, ← Int32.add_assoc]
theorem inPlan_up {σ : Sg} {i : Nat} {v : Int32} (hi : i < nL σ) (h : ¬ σ 20 i = v) : f_inPlan (up σ 20 i v) v = f_inPlan σ v + 1 := by
  have := sum_up1 (r := σ 20) h (nL σ)
  rw [if_pos hi] at this
  exact this
theorem INV_addRecipe {σ : Sg} {a b d : Int32} (hI : INV σ) : INV (F_addRecipe σ a b d) := by
  unfold F_addRecipe
  split
  · rename_i ht
    have h1 : shP a b d := Decidable.byContradiction fun q => by rw [t_addRecipe, if_neg q] at ht; exact absurd ht (by decide)
    have h2 : ¬ σ 1 0 = nI 8 := fun q => by rw [t_addRecipe, if_pos h1, if_pos (show σ 1 0 = 8 from q)] at ht; exact absurd ht (by decide)
    obtain ⟨c1, c2, c3⟩ := cnt_next hI.1.1 (by decide) h2
    obtain ⟨k1, k2, k3, k4, k5, k6, k7, k8, k9, k10, k11, k12⟩ := hI
    refine ⟨⟨⟨_, c1, c3⟩, k1.2⟩, fun j hj => ?_, k3, k4, k5, k6, k7, k8, ⟨fun j hj => ?_, k9.2⟩, ?_, k11, k12⟩
    · exact vin_mono (k2 j hj) (show nR σ ≤ ti (σ 1 0 + 1) by rw [c2]; exact Nat.le_succ _)
    · have hj : 3 * ti (σ 1 0 + 1) ≤ j := hj
      rw [c2] at hj
      exact k9.1 j (by show 3 * ti (σ 1 0) ≤ j; omega)
    · exact upd_all (upd_all (upd_all k10 (sh_in h1.1)) (sh_in h1.2.1)) (sh_in h1.2.2)
  · exact hI.up0 _
theorem INV_setDye {σ : Sg} {r d x : Int32} (hI : INV σ) : INV (F_setDye σ r d x) := by
  unfold F_setDye
  split
  · rename_i ht
    have h1 : okR σ r := Decidable.byContradiction fun q => by rw [t_setDye, if_neg q] at ht; exact absurd ht (by decide)
    have h2 : okD d ∧ isP x 0 5000 := Decidable.byContradiction fun q => by rw [t_setDye, if_pos h1, if_neg q] at ht; exact absurd ht (by decide)
    have kr := (okR_in hI r).mp h1
    have kd := (okD_in d).mp h2.1
    have e := (vin_3d (vin_mono kr hI.r.1) (N := 24) (by decide) (by decide) kd).2
    have q1 := vin_lt kr
    have q2 := vin_lt kd
    obtain ⟨k1, k2, k3, k4, k5, k6, k7, k8, k9, k10, k11, k12⟩ := hI
    refine ⟨k1, k2, k3, k4, k5, k6, k7, k8, ⟨fun j hj hj2 => ?_, k9.2⟩, k10, k11, k12⟩
    have hj : 3 * nR σ ≤ j := hj
    exact (upd_ne (σ 6) x (by omega)).trans (k9.1 j hj hj2)
  · exact hI.up0 _
theorem INV_supply {σ : Sg} {d x : Int32} (hI : INV σ) : INV (F_supply σ d x) := by
  unfold F_supply
  split
  · exact (hI.u0 _ _).u7 _ _
  · exact hI.up0 _
theorem INV_addOrder {σ : Sg} {w r b d x : Int32} (hI : INV σ) : INV (F_addOrder σ w r b d x) := by
  unfold F_addOrder
  split
  · rename_i ht
    have h1 : okR σ r := Decidable.byContradiction fun q => by rw [t_addOrder, if_neg q] at ht; exact absurd ht (by decide)
    have h2 : isP w 0 3 ∧ isP b 0 30 ∧ isP d 0 99 ∧ isP x 0 99 := Decidable.byContradiction fun q => by rw [t_addOrder, if_pos h1, if_neg q] at ht; exact absurd ht (by decide)
    have h3 : ¬ σ 2 0 = nI 6 := fun q => by rw [t_addOrder, if_pos h1, if_pos h2, if_pos (show σ 2 0 = 6 from q)] at ht; exact absurd ht (by decide)
    obtain ⟨c1, c2, c3⟩ := cnt_next hI.1.2.1 (by decide) h3
    have kr := (okR_in hI r).mp h1
    obtain ⟨k1, k2, k3, k4, k5, k6, k7, k8, k9, k10, k11, k12⟩ := hI
    refine ⟨⟨k1.1, ⟨_, c1, c3⟩, k1.2.2⟩, fun j hj => ?_, fun j hj => ?_, k4, k5, k6, k7, k8, k9, k10, k11, fun j hj => ?_⟩
    · have hj : j < ti (σ 2 0 + 1) := hj
      show vp_in (upd (σ 10) (ti (σ 2 0)) r j) (nR σ)
      by_cases e : j = ti (σ 2 0)
      · rw [e, upd_eq]; exact kr
      · rw [upd_ne _ _ e]; exact k2 j (by show j < ti (σ 2 0); omega)
    · exact vin_mono (k3 j hj) (show nO σ ≤ ti (σ 2 0 + 1) by rw [c2]; exact Nat.le_succ _)
    · have hj : j < ti (σ 2 0 + 1) := hj
      show 0 ≤ (upd (σ 11) (ti (σ 2 0)) b j).toInt ∧ 0 ≤ (upd (σ 12) (ti (σ 2 0)) d j).toInt ∧ (upd (σ 12) (ti (σ 2 0)) d j).toInt ≤ 99
      by_cases e : j = ti (σ 2 0)
      · rw [e, upd_eq, upd_eq]
        have e0 : (0 : Int32).toInt = 0 := by decide
        have e99 : (99 : Int32).toInt = 99 := by decide
        have a1 := h2.2.1.1
        have a2 := h2.2.2.1.1
        have a3 := h2.2.2.1.2
        rw [ltI] at a1 a2 a3
        omega
      · rw [upd_ne _ _ e, upd_ne _ _ e]; exact k12 j (by show j < ti (σ 2 0); omega)
  · exact hI.up0 _
theorem INV_addLot {σ : Sg} {o x : Int32} (hI : INV σ) : INV (F_addLot σ o x) := by
  unfold F_addLot
  split
  · rename_i ht
    have h1 : okO σ o := Decidable.byContradiction fun q => by rw [t_addLot, if_neg q] at ht; exact absurd ht (by decide)
    have h2 : isP x 1 200 := Decidable.byContradiction fun q => by rw [t_addLot, if_pos h1, if_neg q] at ht; exact absurd ht (by decide)
    have h3 : ¬ σ 3 0 = nI 24 := fun q => by rw [t_addLot, if_pos h1, if_pos h2, if_pos (show σ 3 0 = 24 from q)] at ht; exact absurd ht (by decide)
    obtain ⟨c1, c2, c3⟩ := cnt_next hI.1.2.2.1 (by decide) h3
    have ko := (okO_in hI o).mp h1
    obtain ⟨k1, k2, k3, k4, k5, k6, k7, k8, k9, k10, k11, k12⟩ := hI
    have lt : ∀ {j : Nat}, j < ti (σ 3 0 + 1) → ¬ j = ti (σ 3 0) → j < nL σ := fun hj e => by show _ < ti (σ 3 0); omega
    refine ⟨⟨k1.1, k1.2.1, ⟨_, c1, c3⟩, k1.2.2.2⟩, k2, fun j hj => ?_, fun j hj => ?_, fun j hj => ?_, fun j hj => ?_, fun j hj => ?_, fun v hv => ?_, ⟨k9.1, fun j hj hj2 => ?_, fun j hj hj2 => ?_, k9.2.2.2⟩, k10, k11, k12⟩
    · show vp_in (upd (σ 14) (ti (σ 3 0)) o j) (nO σ)
      by_cases e : j = ti (σ 3 0)
      · rw [e, upd_eq]; exact ko
      · rw [upd_ne _ _ e]; exact k3 j (lt hj e)
    · show 1 ≤ (upd (σ 15) (ti (σ 3 0)) x j).toInt ∧ (upd (σ 15) (ti (σ 3 0)) x j).toInt ≤ 200
      by_cases e : j = ti (σ 3 0)
      · rw [e, upd_eq]
        have e0 : (1 : Int32).toInt = 1 := by decide
        have e99 : (200 : Int32).toInt = 200 := by decide
        have a1 := h2.1
        have a2 := h2.2
        rw [ltI] at a1 a2
        omega
      · rw [upd_ne _ _ e]; exact k4 j (lt hj e)
    · show upd (σ 21) (ti (σ 3 0)) 119 j = 119 ∨ upd (σ 21) (ti (σ 3 0)) 119 j = 100 ∨ upd (σ 21) (ti (σ 3 0)) 119 j = 112 ∨ upd (σ 21) (ti (σ 3 0)) 119 j = 120
      by_cases e : j = ti (σ 3 0)
      · rw [e, upd_eq]; exact Or.inl rfl
      · rw [upd_ne _ _ e]; exact k5 j (lt hj e)
    · show ¬ upd (σ 21) (ti (σ 3 0)) 119 j = 119 → vp_in (σ 17 j) (nV σ)
      by_cases e : j = ti (σ 3 0)
      · rw [e, upd_eq]; exact fun q => absurd rfl q
      · rw [upd_ne _ _ e]; exact k6 j (lt hj e)
    · show ¬ upd (σ 20) (ti (σ 3 0)) (-1) j = -1 → vp_in (upd (σ 20) (ti (σ 3 0)) (-1) j) (nV σ) ∧ upd (σ 21) (ti (σ 3 0)) 119 j = 119
      by_cases e : j = ti (σ 3 0)
      · rw [e, upd_eq]; exact fun q => absurd rfl q
      · rw [upd_ne _ _ e, upd_ne _ _ e]; exact k7 j (lt hj e)
    · show (sumF (fun j => if upd (σ 20) (ti (σ 3 0)) (-1) j = v then 1 else 0) (ti (σ 3 0 + 1))).toInt ≤ 6
      rw [c2, sumF, upd_eq, if_neg (fun q => hv q.symm), Int32.add_zero, sumF_cong (g := fun j => if σ 20 j = v then 1 else 0) (fun j hj => by rw [upd_ne _ _ (by omega)])]
      exact k8 v hv
    · have hj : 3 * ti (σ 3 0 + 1) ≤ j := hj
      exact k9.2.1 j (by show 3 * ti (σ 3 0) ≤ j; omega) hj2
    · have hj : ti (σ 3 0 + 1) ≤ j := hj
      exact k9.2.2.1 j (by show ti (σ 3 0) ≤ j; omega) hj2
  · exact hI.up0 _
theorem INV_addVat {σ : Sg} {x : Int32} (hI : INV σ) : INV (F_addVat σ x) := by
  unfold F_addVat
  split
  · rename_i ht
    have h2 : isP x 10 300 := Decidable.byContradiction fun q => by rw [t_addVat, if_neg q] at ht; exact absurd ht (by decide)
    have h3 : ¬ σ 4 0 = nI 4 := fun q => by rw [t_addVat, if_pos h2, if_pos (show σ 4 0 = 4 from q)] at ht; exact absurd ht (by decide)
    obtain ⟨c1, c2, c3⟩ := cnt_next hI.1.2.2.2 (by decide) h3
    obtain ⟨k1, k2, k3, k4, k5, k6, k7, k8, k9, k10, k11, k12⟩ := hI
    have hm : nV σ ≤ ti (σ 4 0 + 1) := by rw [c2]; exact Nat.le_succ _
    refine ⟨⟨k1.1, k1.2.1, k1.2.2.1, ⟨_, c1, c3⟩⟩, k2, k3, k4, k5, fun j hj q => vin_mono (k6 j hj q) hm, fun j hj q => ⟨vin_mono (k7 j hj q).1 hm, (k7 j hj q).2⟩, k8, ⟨k9.1, k9.2.1, k9.2.2.1, fun j hj hj2 => ?_⟩, k10, k11, k12⟩
    have hj : ti (σ 4 0 + 1) ≤ j := hj
    exact k9.2.2.2 j (by show ti (σ 4 0) ≤ j; omega) hj2
  · exact hI.up0 _
theorem INV_clean {σ : Sg} {v : Int32} (hI : INV σ) : INV (F_clean σ v) := by
  unfold F_clean
  split
  · rename_i h1
    have kv := vin_lt ((okV_in hI v).mp h1)
    obtain ⟨k1, k2, k3, k4, k5, k6, k7, k8, k9, k10, k11, k12⟩ := hI
    refine ⟨k1, k2, k3, k4, k5, k6, k7, k8, ⟨k9.1, k9.2.1, k9.2.2.1, fun j hj hj2 => ?_⟩, k10, k11, k12⟩
    have hj : nV σ ≤ j := hj
    show upd (σ 25) (ti v) (σ 25 (ti v) + 3) j = 0 ∧ upd (σ 26) (ti v) (σ 26 (ti v) + 1) j = 0
    rw [upd_ne _ _ (by omega), upd_ne _ _ (by omega)]
    exact k9.2.2.2 j hj hj2
  · exact hI.up0 _
theorem INV_st {σ : Sg} {i : Nat} {z : Int32} (hI : INV σ) (hi : i < nL σ) (hs : σ 21 i = 100) (hz : z = 112 ∨ z = 120) : INV (up σ 21 i z) := by
  obtain ⟨k1, k2, k3, k4, k5, k6, k7, k8⟩ := hI
  refine ⟨k1, k2, k3, k4, fun j hj => ?_, fun j hj => ?_, fun j hj => ?_, k8⟩
  · show upd (σ 21) i z j = 119 ∨ upd (σ 21) i z j = 100 ∨ upd (σ 21) i z j = 112 ∨ upd (σ 21) i z j = 120
    by_cases e : j = i
    · rw [e, upd_eq]; exact Or.inr (Or.inr hz)
    · rw [upd_ne _ _ e]; exact k5 j hj
  · show ¬ upd (σ 21) i z j = 119 → vp_in (σ 17 j) (nV σ)
    by_cases e : j = i
    · rw [e, upd_eq]; exact fun _ => k6 i hi (by rw [hs]; decide)
    · rw [upd_ne _ _ e]; exact k6 j hj
  · show ¬ σ 20 j = -1 → vp_in (σ 20 j) (nV σ) ∧ upd (σ 21) i z j = 119
    by_cases e : j = i
    · rw [e]
      intro q
      have := (k7 i hi q).2
      rw [hs] at this
      exact absurd this (by decide)
    · rw [upd_ne _ _ e]; exact k7 j hj
theorem INV_judge {σ : Sg} {l : Int32} (hI : INV σ) : INV (F_judge σ l) := by
  unfold F_judge
  split
  · rename_i h1
    have kl := vin_lt ((okL_in hI l).mp h1.1)
    split
    · split
      · exact (INV_st (hI.u0 0 0) kl h1.2 (Or.inl rfl)).u24 _ _
      · exact INV_st (hI.u0 0 0) kl h1.2 (Or.inl rfl)
    · exact INV_st (hI.u0 0 0) kl h1.2 (Or.inr rfl)
  · exact hI.up0 _
theorem INV_againF {σ : Sg} {l : Int32} (hI : INV σ) : INV (F_again σ l) := by
  unfold F_again
  split
  · rename_i h1
    exact INV_again (hI.u0 0 0) h1.2
  · exact hI.up0 _
theorem INV_unplan {σ : Sg} {l : Int32} (hI : INV σ) : INV (F_unplan σ l) := by
  unfold F_unplan
  split
  · have hb := hI.l.1
    obtain ⟨k1, k2, k3, k4, k5, k6, k7, k8, k9⟩ := hI
    refine ⟨k1, k2, k3, k4, k5, k6, fun j hj => ?_, fun v hv => ?_, k9⟩
    · show ¬ upd (σ 20) (ti l) (-1) j = -1 → vp_in (upd (σ 20) (ti l) (-1) j) (nV σ) ∧ σ 21 j = 119
      by_cases e : j = ti l
      · rw [e, upd_eq]; exact fun q => absurd rfl q
      · rw [upd_ne _ _ e]; exact k7 j hj
    · refine Int.le_trans (inPlan_le (σ := σ) rfl hb (fun j hj q => ?_)) (k8 v hv)
      have q : upd (σ 20) (ti l) (-1) j = v := q
      by_cases e : j = ti l
      · rw [e, upd_eq] at q; exact absurd q.symm hv
      · rwa [upd_ne _ _ e] at q
  · exact hI.up0 _
theorem INV_plan {σ : Sg} {l v : Int32} (hI : INV σ) : INV (F_plan σ l v) := by
  unfold F_plan
  split
  · rename_i ht
    have h1 : okL σ l ∧ okV σ v := Decidable.byContradiction fun q => by rw [t_plan, if_neg q] at ht; exact absurd ht (by decide)
    have h2 : ¬ (¬ σ 21 (ti l) = 119 ∨ ¬ σ 20 (ti l) = -1 ∨ f_inPlan σ v = 6) := fun q => by rw [t_plan, if_pos h1, if_pos q] at ht; exact absurd ht (by decide)
    have kl := vin_lt ((okL_in hI l).mp h1.1)
    have kv := (okV_in hI v).mp h1.2
    have hs : σ 21 (ti l) = 119 := Decidable.byContradiction fun q => h2 (Or.inl q)
    have hp : σ 20 (ti l) = -1 := Decidable.byContradiction fun q => h2 (Or.inr (Or.inl q))
    have hq : ¬ f_inPlan σ v = 6 := fun q => h2 (Or.inr (Or.inr q))
    have hv1 : ¬ v = -1 := fun e => by rw [e] at kv; exact kv (Or.inl (by decide))
    have hb := hI.l.1
    have h8 := hI.2.2.2.2.2.2.2.1 v hv1
    obtain ⟨k1, k2, k3, k4, k5, k6, k7, k8, k9⟩ := hI
    refine ⟨k1, k2, k3, k4, k5, k6, fun j hj => ?_, fun w hw => ?_, k9⟩
    · show ¬ upd (σ 20) (ti l) v j = -1 → vp_in (upd (σ 20) (ti l) v j) (nV σ) ∧ σ 21 j = 119
      by_cases e : j = ti l
      · rw [e, upd_eq]; exact fun _ => ⟨kv, hs⟩
      · rw [upd_ne _ _ e]; exact k7 j hj
    · by_cases e : w = v
      · subst e
        have e2 : f_inPlan (up (up σ 0 0 0) 20 (ti l) w) w = f_inPlan σ w + 1 := inPlan_up (σ := up σ 0 0 0) kl (fun q => hv1 (q.symm.trans hp))
        obtain ⟨a, b, h1, h2, h3, h4⟩ := sum01_le (f := fun j => if σ 20 j = w then 1 else 0) (g := fun j => if σ 20 j = w then 1 else 0) (fun j => by by_cases q : σ 20 j = w <;> simp [q]) (fun j => by by_cases q : σ 20 j = w <;> simp [q]) (nL σ) (fun _ _ q => q)
        have h3 : f_inPlan σ w = nI a := h3
        rw [e2, h3, nI_1, nI_toInt (by omega)]
        rw [h3, nI_toInt (by omega)] at h8
        have : a ≠ 6 := fun q => hq (by rw [h3, q]; rfl)
        omega
      · refine Int.le_trans (inPlan_le (σ := σ) rfl hb (fun j hj q => ?_)) (k8 w hw)
        have q : upd (σ 20) (ti l) v j = w := q
        by_cases e2 : j = ti l
        · rw [e2, upd_eq] at q; exact absurd q.symm e
        · rwa [upd_ne _ _ e2] at q
  · exact hI.up0 _
theorem INV_dyeC {σ : Sg} {i w : Nat} {a b d : Int32} (hI : INV σ) (hi : i < nL σ) (hw : w < nV σ) (h1 : shP a b d) : INV (C_dye σ (nI i) (nI w) a b d) := by
  have hL := hI.l.1
  have hV := hI.v.1
  unfold C_dye
  rw [t30 (by omega), show (3 * nI i + 1) = 3 * nI i + nI 1 from rfl, show (3 * nI i + 2) = 3 * nI i + nI 2 from rfl, t3 1 (by decide) (by omega), t3 2 (by decide) (by omega), ti_nI (by omega), ti_nI (by omega)]
  generalize σ 25 w + f_hours σ (nI i) = hh
  generalize σ 7 0 - f_needed σ (nI i) 0 = n0
  generalize σ 7 1 - f_needed σ (nI i) 1 = n1
  generalize σ 7 2 - f_needed σ (nI i) 2 = n2
  generalize σ 26 w = cw
  obtain ⟨k1, k2, k3, k4, k5, k6, k7, k8, k9, k10, k11, k12⟩ := hI
  refine ⟨k1, k2, k3, k4, fun j hj => ?_, fun j hj => ?_, fun j hj => ?_, fun v hv => ?_, ⟨k9.1, fun j hj hj2 => ?_, fun j hj hj2 => ?_, fun j hj hj2 => ?_⟩, k10, ?_, k12⟩
  · show upd (σ 21) i 100 j = 119 ∨ upd (σ 21) i 100 j = 100 ∨ upd (σ 21) i 100 j = 112 ∨ upd (σ 21) i 100 j = 120
    by_cases e : j = i
    · rw [e, upd_eq]; exact Or.inr (Or.inl rfl)
    · rw [upd_ne _ _ e]; exact k5 j hj
  · show ¬ upd (σ 21) i 100 j = 119 → vp_in (upd (σ 17) i (nI w) j) (nV σ)
    by_cases e : j = i
    · rw [e, upd_eq, upd_eq]; exact fun _ => vin_nI hw (by omega)
    · rw [upd_ne _ _ e, upd_ne _ _ e]; exact k6 j hj
  · show ¬ upd (σ 20) i (-1) j = -1 → vp_in (upd (σ 20) i (-1) j) (nV σ) ∧ upd (σ 21) i 100 j = 119
    by_cases e : j = i
    · rw [e, upd_eq]; exact fun q => absurd rfl q
    · rw [upd_ne _ _ e, upd_ne _ _ e]; exact k7 j hj
  · refine Int.le_trans (inPlan_le (σ := σ) rfl hL (fun j hj q => ?_)) (k8 v hv)
    have q : upd (σ 20) i (-1) j = v := q
    by_cases e : j = i
    · rw [e, upd_eq] at q; exact absurd q.symm hv
    · rwa [upd_ne _ _ e] at q
  · have hj : 3 * nL σ ≤ j := hj
    show upd (upd (upd (σ 16) (3 * i) a) (3 * i + 1) b) (3 * i + 2) d j = 0
    rw [upd_ne _ _ (by omega), upd_ne _ _ (by omega), upd_ne _ _ (by omega)]
    exact k9.2.1 j hj hj2
  · have hj : nL σ ≤ j := hj
    show upd (σ 18) i hh j = 0 ∧ upd (σ 19) i cw j = 0
    rw [upd_ne _ _ (by omega), upd_ne _ _ (by omega)]
    exact k9.2.2.1 j hj hj2
  · have hj : nV σ ≤ j := hj
    show upd (σ 25) w hh j = 0 ∧ σ 26 j = 0
    rw [upd_ne _ _ (by omega)]
    exact k9.2.2.2 j hj hj2
  · exact upd_all (upd_all (upd_all k11 (sh_in h1.1)) (sh_in h1.2.1)) (sh_in h1.2.2)
theorem INV_dye {σ : Sg} {l v a b d : Int32} (hI : INV σ) : INV (F_dye σ l v a b d) := by
  unfold F_dye
  split
  · rename_i ht
    have h1 : okL σ l ∧ okV σ v := Decidable.byContradiction fun q => by rw [t_dye, if_neg q] at ht; exact absurd ht (by decide)
    have h2 : shP a b d := Decidable.byContradiction fun q => by rw [t_dye, if_pos h1, if_neg q] at ht; exact absurd ht (by decide)
    obtain ⟨i, hi, rfl⟩ := vp_in_of ((okL_in hI l).mp h1.1) (Nat.lt_of_le_of_lt hI.l.1 (by decide))
    obtain ⟨w, hw, rfl⟩ := vp_in_of ((okV_in hI v).mp h1.2) (Nat.lt_of_le_of_lt hI.v.1 (by decide))
    exact INV_dyeC hI hi hw h2
  · exact hI.up0 _
