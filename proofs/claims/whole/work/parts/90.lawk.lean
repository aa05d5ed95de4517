/-! ===== class and reference, op by op: the same state, the same answer ===== -/
theorem best_up (σ : Sg) (v : Int32) : bestP (up σ 0 0 0) v = bestP σ v ∧ bP (up σ 0 0 0) v = bP σ v ∧ nP (up σ 0 0 0) v = nP σ v := by
  have hb : bP (up σ 0 0 0) v = bP σ v := funext fun i => lotAt_up σ 0 v (nI i)
  have h1 : ltP (up σ 0 0 0) v = ltP σ v := by unfold ltP; rw [hb]; rfl
  have h2 : cuP (up σ 0 0 0) v = cuP σ v := by unfold cuP; rw [hb]; rfl
  have h3 : hrP (up σ 0 0 0) v = hrP σ v := by unfold hrP; rw [hb]; rfl
  have h4 : nP (up σ 0 0 0) v = nP σ v := rfl
  refine ⟨?_, hb, h4⟩
  unfold bestP cstP
  rw [h1, h2, h3, h4]
  rfl
theorem tk_up (σ : Sg) (v : Int32) (x : Nat) : tkP (up σ 0 0 0) v x = tkP σ v x := by
  unfold tkP
  rw [(best_up σ v).2.1, (best_up σ v).2.2]
theorem lh_smr (σ : Sg) (v : Int32) : SMR σ (F_least (up σ 0 0 0) v) := fun k j h0 h27 h28 => by simp [F_least, up, rw27, h0, h27, h28]
theorem lh_inv {σ : Sg} (hI : INV σ) (v : Int32) : INV (F_least (up σ 0 0 0) v) := hI
theorem z_addRecipe (σ : Sg) (p0 p1 p2 : Int32) : (F_addRecipe σ p0 p1 p2) 0 0 = (t_addRecipe σ p0 p1 p2) := by
  unfold F_addRecipe
  split
  · rename_i h
    exact (show (0 : Int32) = _ from h.symm)
  · rfl
theorem n_addRecipe {σ : Sg} {p0 p1 p2 : Int32} (h : (t_addRecipe σ p0 p1 p2) ≠ 0) : (F_addRecipe σ p0 p1 p2) = up σ 0 0 ((t_addRecipe σ p0 p1 p2)) := by
  unfold F_addRecipe
  exact if_neg h
theorem i_addRecipe {σ : Sg} (hI : INV σ) (p0 p1 p2 : Int32) : INV (F_addRecipe σ p0 p1 p2) := INV_addRecipe hI
theorem r_addRecipe {σ : Sg} (hI : INV σ) (p0 p1 p2 : Int32) (h : (t_addRecipe σ p0 p1 p2) = 0) : (((if t_addRecipe σ p0 p1 p2 = 0 then σ 1 0 else 0)).toInt64) = ((σ 1 0).toInt64) := by
  rw [if_pos h]
theorem z_setDye (σ : Sg) (p0 p1 p2 : Int32) : (F_setDye σ p0 p1 p2) 0 0 = (t_setDye σ p0 p1 p2) := by
  unfold F_setDye
  split
  · rename_i h
    exact (show (0 : Int32) = _ from h.symm)
  · rfl
theorem n_setDye {σ : Sg} {p0 p1 p2 : Int32} (h : (t_setDye σ p0 p1 p2) ≠ 0) : (F_setDye σ p0 p1 p2) = up σ 0 0 ((t_setDye σ p0 p1 p2)) := by
  unfold F_setDye
  exact if_neg h
theorem x_setDye (σ : Sg) (p0 p1 p2 : Int32) : xcnt (F_setDye σ p0 p1 p2) = xcnt σ := by
  unfold F_setDye
  (repeat' split) <;> rfl
theorem i_setDye {σ : Sg} (hI : INV σ) (p0 p1 p2 : Int32) : INV (F_setDye σ p0 p1 p2) := INV_setDye hI
theorem r_setDye {σ : Sg} (hI : INV σ) (p0 p1 p2 : Int32) (h : (t_setDye σ p0 p1 p2) = 0) : (((if t_setDye σ p0 p1 p2 = 0 then σ 6 (ti (3 * p0 + p1)) else 0)).toInt64) = ((σ 6 (ti (3 * p0 + p1))).toInt64) := by
  rw [if_pos h]
theorem z_supply (σ : Sg) (p0 p1 : Int32) : (F_supply σ p0 p1) 0 0 = (t_supply σ p0 p1) := by
  unfold F_supply
  split
  · rename_i h
    exact (show (0 : Int32) = _ from h.symm)
  · rfl
theorem n_supply {σ : Sg} {p0 p1 : Int32} (h : (t_supply σ p0 p1) ≠ 0) : (F_supply σ p0 p1) = up σ 0 0 ((t_supply σ p0 p1)) := by
  unfold F_supply
  exact if_neg h
theorem x_supply (σ : Sg) (p0 p1 : Int32) : xcnt (F_supply σ p0 p1) = xcnt σ := by
  unfold F_supply
  (repeat' split) <;> rfl
theorem i_supply {σ : Sg} (hI : INV σ) (p0 p1 : Int32) : INV (F_supply σ p0 p1) := INV_supply hI
theorem r_supply {σ : Sg} (hI : INV σ) (p0 p1 : Int32) (h : (t_supply σ p0 p1) = 0) : (((if t_supply σ p0 p1 = 0 then σ 7 (ti p0) + p1 else 0)).toInt64) = ((σ 7 (ti p0) + p1).toInt64) := by
  rw [if_pos h]
theorem z_stock (σ : Sg) (p0 : Int32) : (up σ 0 0 (tD p0)) 0 0 = (tD p0) := rfl
theorem i_stock {σ : Sg} (hI : INV σ) (p0 : Int32) : INV (up σ 0 0 (tD p0)) := hI.up0 _
theorem r_stock {σ : Sg} (hI : INV σ) (p0 : Int32) (h : (tD p0) = 0) : (((if okD p0 then σ 7 (ti p0) else 0)).toInt64) = ((σ 7 (ti p0)).toInt64) := by
  congr 1
  simp only [tD, tL, tV, tO, tW, tLV, tN, t_needs, t_plannedAt, t_shadeOf, t_dist, t_near, t_cell, t_byLight, t_dues, t_share, t_mean, okW, t_firstOf] at h
  (repeat' split at h) <;> simp_all [okW]
theorem z_addOrder (σ : Sg) (p0 p1 p2 p3 p4 : Int32) : (F_addOrder σ p0 p1 p2 p3 p4) 0 0 = (t_addOrder σ p0 p1 p2 p3 p4) := by
  unfold F_addOrder
  split
  · rename_i h
    exact (show (0 : Int32) = _ from h.symm)
  · rfl
theorem n_addOrder {σ : Sg} {p0 p1 p2 p3 p4 : Int32} (h : (t_addOrder σ p0 p1 p2 p3 p4) ≠ 0) : (F_addOrder σ p0 p1 p2 p3 p4) = up σ 0 0 ((t_addOrder σ p0 p1 p2 p3 p4)) := by
  unfold F_addOrder
  exact if_neg h
theorem i_addOrder {σ : Sg} (hI : INV σ) (p0 p1 p2 p3 p4 : Int32) : INV (F_addOrder σ p0 p1 p2 p3 p4) := INV_addOrder hI
theorem r_addOrder {σ : Sg} (hI : INV σ) (p0 p1 p2 p3 p4 : Int32) (h : (t_addOrder σ p0 p1 p2 p3 p4) = 0) : (((if t_addOrder σ p0 p1 p2 p3 p4 = 0 then σ 2 0 else 0)).toInt64) = ((σ 2 0).toInt64) := by
  rw [if_pos h]
theorem z_addLot (σ : Sg) (p0 p1 : Int32) : (F_addLot σ p0 p1) 0 0 = (t_addLot σ p0 p1) := by
  unfold F_addLot
  split
  · rename_i h
    exact (show (0 : Int32) = _ from h.symm)
  · rfl
theorem n_addLot {σ : Sg} {p0 p1 : Int32} (h : (t_addLot σ p0 p1) ≠ 0) : (F_addLot σ p0 p1) = up σ 0 0 ((t_addLot σ p0 p1)) := by
  unfold F_addLot
  exact if_neg h
theorem i_addLot {σ : Sg} (hI : INV σ) (p0 p1 : Int32) : INV (F_addLot σ p0 p1) := INV_addLot hI
theorem r_addLot {σ : Sg} (hI : INV σ) (p0 p1 : Int32) (h : (t_addLot σ p0 p1) = 0) : (((if t_addLot σ p0 p1 = 0 then σ 3 0 else 0)).toInt64) = ((σ 3 0).toInt64) := by
  rw [if_pos h]
theorem z_addVat (σ : Sg) (p0 : Int32) : (F_addVat σ p0) 0 0 = (t_addVat σ p0) := by
  unfold F_addVat
  split
  · rename_i h
    exact (show (0 : Int32) = _ from h.symm)
  · rfl
theorem n_addVat {σ : Sg} {p0 : Int32} (h : (t_addVat σ p0) ≠ 0) : (F_addVat σ p0) = up σ 0 0 ((t_addVat σ p0)) := by
  unfold F_addVat
  exact if_neg h
theorem i_addVat {σ : Sg} (hI : INV σ) (p0 : Int32) : INV (F_addVat σ p0) := INV_addVat hI
theorem r_addVat {σ : Sg} (hI : INV σ) (p0 : Int32) (h : (t_addVat σ p0) = 0) : (((if t_addVat σ p0 = 0 then σ 4 0 else 0)).toInt64) = ((σ 4 0).toInt64) := by
  rw [if_pos h]
theorem z_needs (σ : Sg) (p0 p1 : Int32) : (up σ 0 0 (t_needs σ p0 p1)) 0 0 = (t_needs σ p0 p1) := rfl
theorem i_needs {σ : Sg} (hI : INV σ) (p0 p1 : Int32) : INV (up σ 0 0 (t_needs σ p0 p1)) := hI.up0 _
theorem r_needs {σ : Sg} (hI : INV σ) (p0 p1 : Int32) (h : (t_needs σ p0 p1) = 0) : (((if okL σ p0 ∧ okD p1 then f_needed σ p0 p1 else 0)).toInt64) = ((f_needed σ p0 p1).toInt64) := by
  congr 1
  simp only [tD, tL, tV, tO, tW, tLV, tN, t_needs, t_plannedAt, t_shadeOf, t_dist, t_near, t_cell, t_byLight, t_dues, t_share, t_mean, okW, t_firstOf] at h
  (repeat' split at h) <;> simp_all [okW]
theorem z_hoursFor (σ : Sg) (p0 : Int32) : (up σ 0 0 (tL σ p0)) 0 0 = (tL σ p0) := rfl
theorem i_hoursFor {σ : Sg} (hI : INV σ) (p0 : Int32) : INV (up σ 0 0 (tL σ p0)) := hI.up0 _
theorem r_hoursFor {σ : Sg} (hI : INV σ) (p0 : Int32) (h : (tL σ p0) = 0) : (((if okL σ p0 then f_hours σ p0 else 0)).toInt64) = ((f_hours σ p0).toInt64) := by
  congr 1
  simp only [tD, tL, tV, tO, tW, tLV, tN, t_needs, t_plannedAt, t_shadeOf, t_dist, t_near, t_cell, t_byLight, t_dues, t_share, t_mean, okW, t_firstOf] at h
  (repeat' split at h) <;> simp_all [okW]
theorem z_reason (σ : Sg) (p0 p1 : Int32) : (up σ 0 0 (tLV σ p0 p1)) 0 0 = (tLV σ p0 p1) := rfl
theorem i_reason {σ : Sg} (hI : INV σ) (p0 p1 : Int32) : INV (up σ 0 0 (tLV σ p0 p1)) := hI.up0 _
theorem r_reason {σ : Sg} (hI : INV σ) (p0 p1 : Int32) (h : (tLV σ p0 p1) = 0) : (((if okL σ p0 ∧ okV σ p1 then f_why σ p0 p1 else 45)).toInt64) = ((f_why σ p0 p1).toInt64) := by
  congr 1
  simp only [tD, tL, tV, tO, tW, tLV, tN, t_needs, t_plannedAt, t_shadeOf, t_dist, t_near, t_cell, t_byLight, t_dues, t_share, t_mean, okW, t_firstOf] at h
  (repeat' split at h) <;> simp_all [okW]
theorem z_dye (σ : Sg) (p0 p1 p2 p3 p4 : Int32) : (F_dye σ p0 p1 p2 p3 p4) 0 0 = (t_dye σ p0 p1 p2 p3 p4) := by
  unfold F_dye
  split
  · rename_i h
    exact (show (0 : Int32) = _ from h.symm)
  · rfl
theorem n_dye {σ : Sg} {p0 p1 p2 p3 p4 : Int32} (h : (t_dye σ p0 p1 p2 p3 p4) ≠ 0) : (F_dye σ p0 p1 p2 p3 p4) = up σ 0 0 ((t_dye σ p0 p1 p2 p3 p4)) := by
  unfold F_dye
  exact if_neg h
theorem nu_dye {σ : Sg} {u : Nat → Int64} {p0 p1 p2 p3 p4 : Int32} (h : (t_dye σ p0 p1 p2 p3 p4) ≠ 0) : u_dye σ u p0 p1 p2 p3 p4 = u := by
  unfold u_dye
  exact if_neg h
theorem x_dye (σ : Sg) (p0 p1 p2 p3 p4 : Int32) : xcnt (F_dye σ p0 p1 p2 p3 p4) = xcnt σ := by
  unfold F_dye
  (repeat' split) <;> rfl
theorem i_dye {σ : Sg} (hI : INV σ) (p0 p1 p2 p3 p4 : Int32) : INV (F_dye σ p0 p1 p2 p3 p4) := INV_dye hI
theorem r_dye {σ : Sg} (hI : INV σ) (p0 p1 p2 p3 p4 : Int32) (h : (t_dye σ p0 p1 p2 p3 p4) = 0) : (((if t_dye σ p0 p1 p2 p3 p4 = 0 then σ 25 (ti p1) + f_hours σ p0 else 0)).toInt64) = ((σ 25 (ti p1) + f_hours σ p0).toInt64) := by
  rw [if_pos h]
theorem z_clean (σ : Sg) (p0 : Int32) : (F_clean σ p0) 0 0 = (tV σ p0) := by
  unfold F_clean tV
  split <;> rfl
theorem n_clean {σ : Sg} {p0 : Int32} (h : (tV σ p0) ≠ 0) : (F_clean σ p0) = up σ 0 0 ((tV σ p0)) := by
  unfold F_clean
  unfold tV at h ⊢
  split at h
  · exact absurd rfl h
  · rename_i q
    rw [if_neg q, if_neg q]
theorem x_clean (σ : Sg) (p0 : Int32) : xcnt (F_clean σ p0) = xcnt σ := by
  unfold F_clean
  (repeat' split) <;> rfl
theorem i_clean {σ : Sg} (hI : INV σ) (p0 : Int32) : INV (F_clean σ p0) := INV_clean hI
theorem r_clean {σ : Sg} (hI : INV σ) (p0 : Int32) (h : (tV σ p0) = 0) : (((if okV σ p0 then σ 25 (ti p0) + 3 else 0)).toInt64) = ((σ 25 (ti p0) + 3).toInt64) := by
  congr 1
  simp only [tD, tL, tV, tO, tW, tLV, tN, t_needs, t_plannedAt, t_shadeOf, t_dist, t_near, t_cell, t_byLight, t_dues, t_share, t_mean, okW, t_firstOf] at h
  (repeat' split at h) <;> simp_all [okW]
theorem z_verdict (σ : Sg) (p0 : Int32) : (up σ 0 0 (tN σ p0 100)) 0 0 = (tN σ p0 100) := rfl
theorem i_verdict {σ : Sg} (hI : INV σ) (p0 : Int32) : INV (up σ 0 0 (tN σ p0 100)) := hI.up0 _
theorem r_verdict {σ : Sg} (hI : INV σ) (p0 : Int32) (h : (tN σ p0 100) = 0) : (((if okL σ p0 ∧ σ 21 (ti p0) = 100 then f_judged σ p0 else 102)).toInt64) = ((f_judged σ p0).toInt64) := by
  congr 1
  simp only [tD, tL, tV, tO, tW, tLV, tN, t_needs, t_plannedAt, t_shadeOf, t_dist, t_near, t_cell, t_byLight, t_dues, t_share, t_mean, okW, t_firstOf] at h
  (repeat' split at h) <;> simp_all [okW]
theorem z_judge (σ : Sg) (p0 : Int32) : (F_judge σ p0) 0 0 = (tN σ p0 100) := by
  unfold F_judge
  split
  · rename_i h
    have e : tN σ p0 100 = 0 := by unfold tN; rw [if_pos h.1, if_pos h.2]
    rw [e]
    (repeat' split) <;> rfl
  · rfl
theorem n_judge {σ : Sg} {p0 : Int32} (h : (tN σ p0 100) ≠ 0) : (F_judge σ p0) = up σ 0 0 ((tN σ p0 100)) := by
  unfold F_judge
  exact if_neg (fun q => h (by unfold tN; rw [if_pos q.1, if_pos q.2]))
theorem x_judge (σ : Sg) (p0 : Int32) : xcnt (F_judge σ p0) = xcnt σ := by
  unfold F_judge
  (repeat' split) <;> rfl
theorem i_judge {σ : Sg} (hI : INV σ) (p0 : Int32) : INV (F_judge σ p0) := INV_judge hI
theorem r_judge {σ : Sg} (hI : INV σ) (p0 : Int32) (h : (tN σ p0 100) = 0) : (((if okL σ p0 ∧ σ 21 (ti p0) = 100 ∧ f_judged σ p0 = 112 then 1 else 0) : Int32).toInt64) = (if f_judged σ p0 = 112 then 1 else 0) := by
  have h1 : okL σ p0 ∧ σ 21 (ti p0) = 100 := by
    unfold tN at h
    split at h
    · split at h
      · exact ⟨‹_›, ‹_›⟩
      · exact absurd h (by decide)
    · exact absurd h (by decide)
  by_cases q : f_judged σ p0 = 112
  · rw [if_pos ⟨h1.1, h1.2, q⟩, if_pos q]
    rfl
  · rw [if_neg (fun w => q w.2.2), if_neg q]
    rfl
theorem z_again (σ : Sg) (p0 : Int32) : (F_again σ p0) 0 0 = (tN σ p0 120) := by
  unfold F_again
  split
  · rename_i h
    have e : tN σ p0 120 = 0 := by unfold tN; rw [if_pos h.1, if_pos h.2]
    rw [e]
    rfl
  · rfl
theorem n_again {σ : Sg} {p0 : Int32} (h : (tN σ p0 120) ≠ 0) : (F_again σ p0) = up σ 0 0 ((tN σ p0 120)) := by
  unfold F_again
  exact if_neg (fun q => h (by unfold tN; rw [if_pos q.1, if_pos q.2]))
theorem x_again (σ : Sg) (p0 : Int32) : xcnt (F_again σ p0) = xcnt σ := by
  unfold F_again
  (repeat' split) <;> rfl
theorem i_again {σ : Sg} (hI : INV σ) (p0 : Int32) : INV (F_again σ p0) := INV_againF hI
theorem r_again {σ : Sg} (hI : INV σ) (p0 : Int32) (h : (tN σ p0 120) = 0) : (((if okL σ p0 ∧ σ 21 (ti p0) = 120 then f_waiting (up (up σ 0 0 0) 21 (ti p0) 119) else 0)).toInt64) = ((f_waiting (up (up σ 0 0 0) 21 (ti p0) 119)).toInt64) := by
  congr 1
  simp only [tD, tL, tV, tO, tW, tLV, tN, t_needs, t_plannedAt, t_shadeOf, t_dist, t_near, t_cell, t_byLight, t_dues, t_share, t_mean, okW, t_firstOf] at h
  (repeat' split at h) <;> simp_all [okW]
theorem z_plan (σ : Sg) (p0 p1 : Int32) : (F_plan σ p0 p1) 0 0 = (t_plan σ p0 p1) := by
  unfold F_plan
  split
  · rename_i h
    exact (show (0 : Int32) = _ from h.symm)
  · rfl
theorem n_plan {σ : Sg} {p0 p1 : Int32} (h : (t_plan σ p0 p1) ≠ 0) : (F_plan σ p0 p1) = up σ 0 0 ((t_plan σ p0 p1)) := by
  unfold F_plan
  exact if_neg h
theorem x_plan (σ : Sg) (p0 p1 : Int32) : xcnt (F_plan σ p0 p1) = xcnt σ := by
  unfold F_plan
  (repeat' split) <;> rfl
theorem i_plan {σ : Sg} (hI : INV σ) (p0 p1 : Int32) : INV (F_plan σ p0 p1) := INV_plan hI
theorem r_plan {σ : Sg} (hI : INV σ) (p0 p1 : Int32) (h : (t_plan σ p0 p1) = 0) : (((if t_plan σ p0 p1 = 0 then f_inPlan (up (up σ 0 0 0) 20 (ti p0) p1) p1 else 0)).toInt64) = ((f_inPlan σ p1 + 1).toInt64) := by
  rw [if_pos h]
  congr 1
  have h1 : okL σ p0 ∧ okV σ p1 := Decidable.byContradiction fun q => by rw [t_plan, if_neg q] at h; exact absurd h (by decide)
  have h2 : ¬ (¬ σ 21 (ti p0) = 119 ∨ ¬ σ 20 (ti p0) = -1 ∨ f_inPlan σ p1 = 6) := fun q => by rw [t_plan, if_pos h1, if_pos q] at h; exact absurd h (by decide)
  have kl := vin_lt ((okL_in hI p0).mp h1.1)
  have kv := (okV_in hI p1).mp h1.2
  have hp : σ 20 (ti p0) = -1 := Decidable.byContradiction fun q => h2 (Or.inr (Or.inl q))
  have hv1 : ¬ p1 = -1 := fun e => by rw [e] at kv; exact kv (Or.inl (by decide))
  exact inPlan_up (σ := up σ 0 0 0) kl (fun q => hv1 (q.symm.trans hp))
theorem z_unplan (σ : Sg) (p0 : Int32) : (F_unplan σ p0) 0 0 = (t_unplan σ p0) := by
  unfold F_unplan
  split
  · rename_i h
    exact (show (0 : Int32) = _ from h.symm)
  · rfl
theorem n_unplan {σ : Sg} {p0 : Int32} (h : (t_unplan σ p0) ≠ 0) : (F_unplan σ p0) = up σ 0 0 ((t_unplan σ p0)) := by
  unfold F_unplan
  exact if_neg h
theorem x_unplan (σ : Sg) (p0 : Int32) : xcnt (F_unplan σ p0) = xcnt σ := by
  unfold F_unplan
  (repeat' split) <;> rfl
theorem i_unplan {σ : Sg} (hI : INV σ) (p0 : Int32) : INV (F_unplan σ p0) := INV_unplan hI
theorem r_unplan {σ : Sg} (hI : INV σ) (p0 : Int32) (h : (t_unplan σ p0) = 0) : (((if t_unplan σ p0 = 0 then σ 20 (ti p0) else 0)).toInt64) = ((σ 20 (ti p0)).toInt64) := by
  rw [if_pos h]
theorem z_planned (σ : Sg) (p0 : Int32) : (up σ 0 0 (tV σ p0)) 0 0 = (tV σ p0) := rfl
theorem i_planned {σ : Sg} (hI : INV σ) (p0 : Int32) : INV (up σ 0 0 (tV σ p0)) := hI.up0 _
theorem r_planned {σ : Sg} (hI : INV σ) (p0 : Int32) (h : (tV σ p0) = 0) : (((if okV σ p0 then f_inPlan σ p0 else 0)).toInt64) = ((f_inPlan σ p0).toInt64) := by
  congr 1
  simp only [tD, tL, tV, tO, tW, tLV, tN, t_needs, t_plannedAt, t_shadeOf, t_dist, t_near, t_cell, t_byLight, t_dues, t_share, t_mean, okW, t_firstOf] at h
  (repeat' split at h) <;> simp_all [okW]
theorem z_plannedAt (σ : Sg) (p0 p1 : Int32) : (up σ 0 0 (t_plannedAt σ p0 p1)) 0 0 = (t_plannedAt σ p0 p1) := rfl
theorem i_plannedAt {σ : Sg} (hI : INV σ) (p0 p1 : Int32) : INV (up σ 0 0 (t_plannedAt σ p0 p1)) := hI.up0 _
theorem r_plannedAt {σ : Sg} (hI : INV σ) (p0 p1 : Int32) (h : (t_plannedAt σ p0 p1) = 0) : (((if okV σ p0 ∧ ¬ f_lotAt σ p0 p1 = -1 then f_lotAt σ p0 p1 else 0)).toInt64) = ((f_lotAt σ p0 p1).toInt64) := by
  congr 1
  simp only [tD, tL, tV, tO, tW, tLV, tN, t_needs, t_plannedAt, t_shadeOf, t_dist, t_near, t_cell, t_byLight, t_dues, t_share, t_mean, okW, t_firstOf] at h
  (repeat' split at h) <;> simp_all [okW]
theorem z_leastHours (σ : Sg) (p0 : Int32) : (F_lh σ p0) 0 0 = (tV σ p0) := by
  unfold F_lh
  split
  · rename_i h
    exact (show (0 : Int32) = _ from by first | exact h.symm | (unfold tV; rw [if_pos h]))
  · rename_i h
    exact (show (1 : Int32) = _ from by unfold tV; rw [if_neg h])
theorem i_leastHours {σ : Sg} (hI : INV σ) (p0 : Int32) : INV (F_lh σ p0) := by
  unfold F_lh
  split
  · exact lh_inv hI p0
  · exact hI.up0 _
theorem s_leastHours (σ : Sg) (p0 : Int32) : SMR σ (F_lh σ p0) := by
  unfold F_lh
  split
  · exact lh_smr σ p0
  · exact SMR.u0 σ _
theorem r_leastHours {σ : Sg} (hI : INV σ) (p0 : Int32) (h : (tV σ p0) = 0) : (((if okV σ p0 then nI (bestP (up σ 0 0 0) p0).1 else 0)).toInt64) = ((nI (bestP σ p0).1).toInt64) := by
  have hv : okV σ p0 := Decidable.byContradiction fun q => by rw [tV, if_neg q] at h; exact absurd h (by decide)
  rw [if_pos hv]
  rw [(best_up σ p0).1]
theorem z_leastByAll (σ : Sg) (p0 : Int32) : (F_lh σ p0) 0 0 = (tV σ p0) := by
  unfold F_lh
  split
  · rename_i h
    exact (show (0 : Int32) = _ from by first | exact h.symm | (unfold tV; rw [if_pos h]))
  · rename_i h
    exact (show (1 : Int32) = _ from by unfold tV; rw [if_neg h])
theorem i_leastByAll {σ : Sg} (hI : INV σ) (p0 : Int32) : INV (F_lh σ p0) := by
  unfold F_lh
  split
  · exact lh_inv hI p0
  · exact hI.up0 _
theorem s_leastByAll (σ : Sg) (p0 : Int32) : SMR σ (F_lh σ p0) := by
  unfold F_lh
  split
  · exact lh_smr σ p0
  · exact SMR.u0 σ _
theorem r_leastByAll {σ : Sg} (hI : INV σ) (p0 : Int32) (h : (tV σ p0) = 0) : (((if okV σ p0 then nI (bestP (up σ 0 0 0) p0).1 else 0)).toInt64) = ((nI (bestP σ p0).1).toInt64) := by
  have hv : okV σ p0 := Decidable.byContradiction fun q => by rw [tV, if_neg q] at h; exact absurd h (by decide)
  rw [if_pos hv]
  rw [(best_up σ p0).1]
theorem z_firstOf (σ : Sg) (p0 : Int32) : (F_firstOf σ p0) 0 0 = (t_firstOf σ p0) := by
  unfold F_firstOf
  split
  · rename_i h
    exact (show (0 : Int32) = _ from by first | exact h.symm | (unfold tV; rw [if_pos h]))
  · rename_i h
    exact rfl
theorem i_firstOf {σ : Sg} (hI : INV σ) (p0 : Int32) : INV (F_firstOf σ p0) := by
  unfold F_firstOf
  split
  · exact lh_inv hI p0
  · exact hI.up0 _
theorem s_firstOf (σ : Sg) (p0 : Int32) : SMR σ (F_firstOf σ p0) := by
  unfold F_firstOf
  split
  · exact lh_smr σ p0
  · exact SMR.u0 σ _
theorem r_firstOf {σ : Sg} (hI : INV σ) (p0 : Int32) (h : (t_firstOf σ p0) = 0) : (((if t_firstOf σ p0 = 0 then tkP (up σ 0 0 0) p0 (bestP (up σ 0 0 0) p0).2 else 0)).toInt64) = ((tkP σ p0 (bestP σ p0).2).toInt64) := by
  rw [if_pos h]
  rw [tk_up, (best_up σ p0).1]
theorem z_stateOf (σ : Sg) (p0 : Int32) : (up σ 0 0 (tL σ p0)) 0 0 = (tL σ p0) := rfl
theorem i_stateOf {σ : Sg} (hI : INV σ) (p0 : Int32) : INV (up σ 0 0 (tL σ p0)) := hI.up0 _
theorem r_stateOf {σ : Sg} (hI : INV σ) (p0 : Int32) (h : (tL σ p0) = 0) : (((if okL σ p0 then σ 21 (ti p0) else 119)).toInt64) = ((σ 21 (ti p0)).toInt64) := by
  congr 1
  simp only [tD, tL, tV, tO, tW, tLV, tN, t_needs, t_plannedAt, t_shadeOf, t_dist, t_near, t_cell, t_byLight, t_dues, t_share, t_mean, okW, t_firstOf] at h
  (repeat' split at h) <;> simp_all [okW]
theorem z_shadeOf (σ : Sg) (p0 p1 : Int32) : (up σ 0 0 (t_shadeOf σ p0 p1)) 0 0 = (t_shadeOf σ p0 p1) := rfl
theorem i_shadeOf {σ : Sg} (hI : INV σ) (p0 p1 : Int32) : INV (up σ 0 0 (t_shadeOf σ p0 p1)) := hI.up0 _
theorem r_shadeOf {σ : Sg} (hI : INV σ) (p0 p1 : Int32) (h : (t_shadeOf σ p0 p1) = 0) : (((if okW σ p0 ∧ okD p1 then σ 16 (ti (3 * p0 + p1)) else 0)).toInt64) = ((σ 16 (ti (3 * p0 + p1))).toInt64) := by
  congr 1
  simp only [tD, tL, tV, tO, tW, tLV, tN, t_needs, t_plannedAt, t_shadeOf, t_dist, t_near, t_cell, t_byLight, t_dues, t_share, t_mean, okW, t_firstOf] at h
  (repeat' split at h) <;> simp_all [okW]
theorem z_vatOf (σ : Sg) (p0 : Int32) : (up σ 0 0 (tW σ p0)) 0 0 = (tW σ p0) := rfl
theorem i_vatOf {σ : Sg} (hI : INV σ) (p0 : Int32) : INV (up σ 0 0 (tW σ p0)) := hI.up0 _
theorem r_vatOf {σ : Sg} (hI : INV σ) (p0 : Int32) (h : (tW σ p0) = 0) : (((if okL σ p0 ∧ ¬ σ 21 (ti p0) = 119 then σ 17 (ti p0) else 0)).toInt64) = ((σ 17 (ti p0)).toInt64) := by
  congr 1
  simp only [tD, tL, tV, tO, tW, tLV, tN, t_needs, t_plannedAt, t_shadeOf, t_dist, t_near, t_cell, t_byLight, t_dues, t_share, t_mean, okW, t_firstOf] at h
  (repeat' split at h) <;> simp_all [okW]
theorem z_offBy (σ : Sg) (p0 : Int32) : (up σ 0 0 (tW σ p0)) 0 0 = (tW σ p0) := rfl
theorem i_offBy {σ : Sg} (hI : INV σ) (p0 : Int32) : INV (up σ 0 0 (tW σ p0)) := hI.up0 _
theorem r_offBy {σ : Sg} (hI : INV σ) (p0 : Int32) (h : (tW σ p0) = 0) : (((if okL σ p0 ∧ ¬ σ 21 (ti p0) = 119 then f_off σ p0 else 0)).toInt64) = ((f_off σ p0).toInt64) := by
  congr 1
  simp only [tD, tL, tV, tO, tW, tLV, tN, t_needs, t_plannedAt, t_shadeOf, t_dist, t_near, t_cell, t_byLight, t_dues, t_share, t_mean, okW, t_firstOf] at h
  (repeat' split at h) <;> simp_all [okW]
theorem z_distance (σ : Sg) (p0 p1 : Int32) : (up σ 0 0 (t_dist σ p0 p1)) 0 0 = (t_dist σ p0 p1) := rfl
theorem i_distance {σ : Sg} (hI : INV σ) (p0 p1 : Int32) : INV (up σ 0 0 (t_dist σ p0 p1)) := hI.up0 _
theorem r_distance {σ : Sg} (hI : INV σ) (p0 p1 : Int32) (h : (t_dist σ p0 p1) = 0) : (((if t_dist σ p0 p1 = 0 then f_apart σ p0 p1 else 0)).toInt64) = ((f_apart σ p0 p1).toInt64) := by
  rw [if_pos h]
theorem z_nearest (σ : Sg) (p0 : Int32) : (up σ 0 0 (t_near σ p0)) 0 0 = (t_near σ p0) := rfl
theorem i_nearest {σ : Sg} (hI : INV σ) (p0 : Int32) : INV (up σ 0 0 (t_near σ p0)) := hI.up0 _
theorem r_nearest {σ : Sg} (hI : INV σ) (p0 : Int32) (h : (t_near σ p0) = 0) : (((if okW σ p0 ∧ ¬ bestF σ p0 (nL σ) = -1 then bestF σ p0 (nL σ) else 0)).toInt64) = ((bestF σ p0 (nL σ)).toInt64) := by
  congr 1
  simp only [tD, tL, tV, tO, tW, tLV, tN, t_needs, t_plannedAt, t_shadeOf, t_dist, t_near, t_cell, t_byLight, t_dues, t_share, t_mean, okW, t_firstOf] at h
  (repeat' split at h) <;> simp_all [okW]
theorem z_byLight (σ : Sg) (p0 : Int32) : (up σ 0 0 (t_byLight σ p0)) 0 0 = (t_byLight σ p0) := rfl
theorem i_byLight {σ : Sg} (hI : INV σ) (p0 : Int32) : INV (up σ 0 0 (t_byLight σ p0)) := hI.up0 _
theorem r_byLight {σ : Sg} (hI : INV σ) (p0 : Int32) (h : (t_byLight σ p0) = 0) : (((if f_byLight σ p0 = -1 then 0 else f_byLight σ p0)).toInt64) = ((f_byLight σ p0).toInt64) := by
  congr 1
  simp only [tD, tL, tV, tO, tW, tLV, tN, t_needs, t_plannedAt, t_shadeOf, t_dist, t_near, t_cell, t_byLight, t_dues, t_share, t_mean, okW, t_firstOf] at h
  (repeat' split at h) <;> simp_all [okW]
theorem z_clock (σ : Sg) (p0 : Int32) : (up σ 0 0 (tV σ p0)) 0 0 = (tV σ p0) := rfl
theorem i_clock {σ : Sg} (hI : INV σ) (p0 : Int32) : INV (up σ 0 0 (tV σ p0)) := hI.up0 _
theorem r_clock {σ : Sg} (hI : INV σ) (p0 : Int32) (h : (tV σ p0) = 0) : (((if okV σ p0 then σ 25 (ti p0) else 0)).toInt64) = ((σ 25 (ti p0)).toInt64) := by
  congr 1
  simp only [tD, tL, tV, tO, tW, tLV, tN, t_needs, t_plannedAt, t_shadeOf, t_dist, t_near, t_cell, t_byLight, t_dues, t_share, t_mean, okW, t_firstOf] at h
  (repeat' split at h) <;> simp_all [okW]
theorem z_cleanings (σ : Sg) (p0 : Int32) : (up σ 0 0 (tV σ p0)) 0 0 = (tV σ p0) := rfl
theorem i_cleanings {σ : Sg} (hI : INV σ) (p0 : Int32) : INV (up σ 0 0 (tV σ p0)) := hI.up0 _
theorem r_cleanings {σ : Sg} (hI : INV σ) (p0 : Int32) (h : (tV σ p0) = 0) : (((if okV σ p0 then σ 26 (ti p0) else 0)).toInt64) = ((σ 26 (ti p0)).toInt64) := by
  congr 1
  simp only [tD, tL, tV, tO, tW, tLV, tN, t_needs, t_plannedAt, t_shadeOf, t_dist, t_near, t_cell, t_byLight, t_dues, t_share, t_mean, okW, t_firstOf] at h
  (repeat' split at h) <;> simp_all [okW]
theorem z_lightIn (σ : Sg) (p0 : Int32) : (up σ 0 0 (t_cell σ 23 p0)) 0 0 = (t_cell σ 23 p0) := rfl
theorem i_lightIn {σ : Sg} (hI : INV σ) (p0 : Int32) : INV (up σ 0 0 (t_cell σ 23 p0)) := hI.up0 _
theorem r_lightIn {σ : Sg} (hI : INV σ) (p0 : Int32) (h : (t_cell σ 23 p0) = 0) : (((if t_cell σ 23 p0 = 0 then σ 23 (ti p0) else 0)).toInt64) = ((σ 23 (ti p0)).toInt64) := by
  rw [if_pos h]
theorem z_customerOf (σ : Sg) (p0 : Int32) : (up σ 0 0 (t_cell σ 24 p0)) 0 0 = (t_cell σ 24 p0) := rfl
theorem i_customerOf {σ : Sg} (hI : INV σ) (p0 : Int32) : INV (up σ 0 0 (t_cell σ 24 p0)) := hI.up0 _
theorem r_customerOf {σ : Sg} (hI : INV σ) (p0 : Int32) (h : (t_cell σ 24 p0) = 0) : (((if t_cell σ 24 p0 = 0 then σ 24 (ti p0) else 0)).toInt64) = ((σ 24 (ti p0)).toInt64) := by
  rw [if_pos h]
theorem z_lotsOf (σ : Sg) (p0 : Int32) : (up σ 0 0 (tO σ p0)) 0 0 = (tO σ p0) := rfl
theorem i_lotsOf {σ : Sg} (hI : INV σ) (p0 : Int32) : INV (up σ 0 0 (tO σ p0)) := hI.up0 _
theorem r_lotsOf {σ : Sg} (hI : INV σ) (p0 : Int32) (h : (tO σ p0) = 0) : (((if okO σ p0 then c_lots σ p0 (nL σ) else 0)).toInt64) = ((c_lots σ p0 (nL σ)).toInt64) := by
  congr 1
  simp only [tD, tL, tV, tO, tW, tLV, tN, t_needs, t_plannedAt, t_shadeOf, t_dist, t_near, t_cell, t_byLight, t_dues, t_share, t_mean, okW, t_firstOf] at h
  (repeat' split at h) <;> simp_all [okW]
theorem z_passedOf (σ : Sg) (p0 : Int32) : (up σ 0 0 (tO σ p0)) 0 0 = (tO σ p0) := rfl
theorem i_passedOf {σ : Sg} (hI : INV σ) (p0 : Int32) : INV (up σ 0 0 (tO σ p0)) := hI.up0 _
theorem r_passedOf {σ : Sg} (hI : INV σ) (p0 : Int32) (h : (tO σ p0) = 0) : (((if okO σ p0 then c_pass σ p0 (nL σ) else 0)).toInt64) = ((c_pass σ p0 (nL σ)).toInt64) := by
  congr 1
  simp only [tD, tL, tV, tO, tW, tLV, tN, t_needs, t_plannedAt, t_shadeOf, t_dist, t_near, t_cell, t_byLight, t_dues, t_share, t_mean, okW, t_firstOf] at h
  (repeat' split at h) <;> simp_all [okW]
theorem z_spread (σ : Sg) (p0 : Int32) : (up σ 0 0 (tO σ p0)) 0 0 = (tO σ p0) := rfl
theorem i_spread {σ : Sg} (hI : INV σ) (p0 : Int32) : INV (up σ 0 0 (tO σ p0)) := hI.up0 _
theorem r_spread {σ : Sg} (hI : INV σ) (p0 : Int32) (h : (tO σ p0) = 0) : (((if okO σ p0 then spO σ p0 (nL σ) else 0)).toInt64) = ((spO σ p0 (nL σ)).toInt64) := by
  congr 1
  simp only [tD, tL, tV, tO, tW, tLV, tN, t_needs, t_plannedAt, t_shadeOf, t_dist, t_near, t_cell, t_byLight, t_dues, t_share, t_mean, okW, t_firstOf] at h
  (repeat' split at h) <;> simp_all [okW]
theorem z_lateBy (σ : Sg) (p0 : Int32) : (up σ 0 0 (tO σ p0)) 0 0 = (tO σ p0) := rfl
theorem i_lateBy {σ : Sg} (hI : INV σ) (p0 : Int32) : INV (up σ 0 0 (tO σ p0)) := hI.up0 _
theorem r_lateBy {σ : Sg} (hI : INV σ) (p0 : Int32) (h : (tO σ p0) = 0) : (((if okO σ p0 then f_late σ p0 else 0)).toInt64) = ((f_late σ p0).toInt64) := by
  congr 1
  simp only [tD, tL, tV, tO, tW, tLV, tN, t_needs, t_plannedAt, t_shadeOf, t_dist, t_near, t_cell, t_byLight, t_dues, t_share, t_mean, okW, t_firstOf] at h
  (repeat' split at h) <;> simp_all [okW]
theorem z_due (σ : Sg) (p0 : Int32) : (up σ 0 0 (tO σ p0)) 0 0 = (tO σ p0) := rfl
theorem i_due {σ : Sg} (hI : INV σ) (p0 : Int32) : INV (up σ 0 0 (tO σ p0)) := hI.up0 _
theorem r_due {σ : Sg} (hI : INV σ) (p0 : Int32) (h : (tO σ p0) = 0) : (((if okO σ p0 then f_worth σ p0 else 0)).toInt64) = ((f_worth σ p0).toInt64) := by
  congr 1
  simp only [tD, tL, tV, tO, tW, tLV, tN, t_needs, t_plannedAt, t_shadeOf, t_dist, t_near, t_cell, t_byLight, t_dues, t_share, t_mean, okW, t_firstOf] at h
  (repeat' split at h) <;> simp_all [okW]
theorem z_dues (σ : Sg) (p0 : Int32) : (up σ 0 0 (t_dues p0)) 0 0 = (t_dues p0) := rfl
theorem i_dues {σ : Sg} (hI : INV σ) (p0 : Int32) : INV (up σ 0 0 (t_dues p0)) := hI.up0 _
theorem r_dues {σ : Sg} (hI : INV σ) (p0 : Int32) (h : (t_dues p0) = 0) : (if isP p0 0 3 then f_dues σ p0 (nO σ) else 0) = (f_dues σ p0 (nO σ)) := by
  simp only [tD, tL, tV, tO, tW, tLV, tN, t_needs, t_plannedAt, t_shadeOf, t_dist, t_near, t_cell, t_byLight, t_dues, t_share, t_mean, okW, t_firstOf] at h
  (repeat' split at h) <;> simp_all [okW]
theorem z_used (σ : Sg) (p0 : Int32) : (up σ 0 0 (tD p0)) 0 0 = (tD p0) := rfl
theorem i_used {σ : Sg} (hI : INV σ) (p0 : Int32) : INV (up σ 0 0 (tD p0)) := hI.up0 _
theorem r_used {σ : Sg} (hI : INV σ) (u : Nat → Int64) (p0 : Int32) (h : (tD p0) = 0) : (if okD p0 then u (ti p0) else 0) = (u (ti p0)) := by
  simp only [tD, tL, tV, tO, tW, tLV, tN, t_needs, t_plannedAt, t_shadeOf, t_dist, t_near, t_cell, t_byLight, t_dues, t_share, t_mean, okW, t_firstOf] at h
  (repeat' split at h) <;> simp_all [okW]
theorem z_passedShare (σ : Sg) : (up σ 0 0 (t_share σ)) 0 0 = (t_share σ) := rfl
theorem i_passedShare {σ : Sg} (hI : INV σ) : INV (up σ 0 0 (t_share σ)) := hI.up0 _
theorem r_passedShare {σ : Sg} (hI : INV σ) (h : (t_share σ) = 0) : (if c_st σ 112 (nL σ) + c_st σ 120 (nL σ) = 0 then FP.fconst0 else f_share σ) = (f_share σ) := by
  simp only [tD, tL, tV, tO, tW, tLV, tN, t_needs, t_plannedAt, t_shadeOf, t_dist, t_near, t_cell, t_byLight, t_dues, t_share, t_mean, okW, t_firstOf] at h
  (repeat' split at h) <;> simp_all [okW]
theorem z_meanOff (σ : Sg) : (up σ 0 0 (t_mean σ)) 0 0 = (t_mean σ) := rfl
theorem i_meanOff {σ : Sg} (hI : INV σ) : INV (up σ 0 0 (t_mean σ)) := hI.up0 _
theorem r_meanOff {σ : Sg} (hI : INV σ) (h : (t_mean σ) = 0) : (if c_nw σ (nL σ) = 0 then FP.dconst0 else f_mean σ) = (f_mean σ) := by
  simp only [tD, tL, tV, tO, tW, tLV, tN, t_needs, t_plannedAt, t_shadeOf, t_dist, t_near, t_cell, t_byLight, t_dues, t_share, t_mean, okW, t_firstOf] at h
  (repeat' split at h) <;> simp_all [okW]
