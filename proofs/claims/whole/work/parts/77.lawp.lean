/-! ===== what the calls throw, by places ===== -/
theorem tc_addRecipe (σ : Sg) (p0 p1 p2 : Int32) : (t_addRecipe σ p0 p1 p2) = 0 ∨ (t_addRecipe σ p0 p1 p2) = 1 ∨ ((t_addRecipe σ p0 p1 p2) = 2 ∧ (3 : Nat) ≠ 0) ∨ ((t_addRecipe σ p0 p1 p2) = 3 ∧ (0 : Nat) ≠ 0) := by
  simp only [tD, tL, tV, tO, tW, tLV, tN, t_needs, t_plannedAt, t_shadeOf, t_dist, t_near, t_cell, t_byLight, t_dues, t_share, t_mean, okW, t_setDye, t_supply, t_plan, t_unplan, t_dye, t_addVat, t_addLot, t_addOrder, t_addRecipe, t_firstOf]
  (repeat' split) <;> decide
theorem tc_setDye (σ : Sg) (p0 p1 p2 : Int32) : (t_setDye σ p0 p1 p2) = 0 ∨ (t_setDye σ p0 p1 p2) = 1 ∨ ((t_setDye σ p0 p1 p2) = 2 ∧ (2 : Nat) ≠ 0) ∨ ((t_setDye σ p0 p1 p2) = 3 ∧ (0 : Nat) ≠ 0) := by
  simp only [tD, tL, tV, tO, tW, tLV, tN, t_needs, t_plannedAt, t_shadeOf, t_dist, t_near, t_cell, t_byLight, t_dues, t_share, t_mean, okW, t_setDye, t_supply, t_plan, t_unplan, t_dye, t_addVat, t_addLot, t_addOrder, t_addRecipe, t_firstOf]
  (repeat' split) <;> decide
theorem tc_supply (σ : Sg) (p0 p1 : Int32) : (t_supply σ p0 p1) = 0 ∨ (t_supply σ p0 p1) = 1 ∨ ((t_supply σ p0 p1) = 2 ∧ (3 : Nat) ≠ 0) ∨ ((t_supply σ p0 p1) = 3 ∧ (0 : Nat) ≠ 0) := by
  simp only [tD, tL, tV, tO, tW, tLV, tN, t_needs, t_plannedAt, t_shadeOf, t_dist, t_near, t_cell, t_byLight, t_dues, t_share, t_mean, okW, t_setDye, t_supply, t_plan, t_unplan, t_dye, t_addVat, t_addLot, t_addOrder, t_addRecipe, t_firstOf]
  (repeat' split) <;> decide
theorem tc_stock (σ : Sg) (p0 : Int32) : (tD p0) = 0 ∨ (tD p0) = 1 ∨ ((tD p0) = 2 ∧ (0 : Nat) ≠ 0) ∨ ((tD p0) = 3 ∧ (0 : Nat) ≠ 0) := by
  simp only [tD, tL, tV, tO, tW, tLV, tN, t_needs, t_plannedAt, t_shadeOf, t_dist, t_near, t_cell, t_byLight, t_dues, t_share, t_mean, okW, t_setDye, t_supply, t_plan, t_unplan, t_dye, t_addVat, t_addLot, t_addOrder, t_addRecipe, t_firstOf]
  (repeat' split) <;> decide
theorem tc_addOrder (σ : Sg) (p0 p1 p2 p3 p4 : Int32) : (t_addOrder σ p0 p1 p2 p3 p4) = 0 ∨ (t_addOrder σ p0 p1 p2 p3 p4) = 1 ∨ ((t_addOrder σ p0 p1 p2 p3 p4) = 2 ∧ (2 : Nat) ≠ 0) ∨ ((t_addOrder σ p0 p1 p2 p3 p4) = 3 ∧ (3 : Nat) ≠ 0) := by
  simp only [tD, tL, tV, tO, tW, tLV, tN, t_needs, t_plannedAt, t_shadeOf, t_dist, t_near, t_cell, t_byLight, t_dues, t_share, t_mean, okW, t_setDye, t_supply, t_plan, t_unplan, t_dye, t_addVat, t_addLot, t_addOrder, t_addRecipe, t_firstOf]
  (repeat' split) <;> decide
theorem tc_addLot (σ : Sg) (p0 p1 : Int32) : (t_addLot σ p0 p1) = 0 ∨ (t_addLot σ p0 p1) = 1 ∨ ((t_addLot σ p0 p1) = 2 ∧ (2 : Nat) ≠ 0) ∨ ((t_addLot σ p0 p1) = 3 ∧ (3 : Nat) ≠ 0) := by
  simp only [tD, tL, tV, tO, tW, tLV, tN, t_needs, t_plannedAt, t_shadeOf, t_dist, t_near, t_cell, t_byLight, t_dues, t_share, t_mean, okW, t_setDye, t_supply, t_plan, t_unplan, t_dye, t_addVat, t_addLot, t_addOrder, t_addRecipe, t_firstOf]
  (repeat' split) <;> decide
theorem tc_addVat (σ : Sg) (p0 : Int32) : (t_addVat σ p0) = 0 ∨ (t_addVat σ p0) = 1 ∨ ((t_addVat σ p0) = 2 ∧ (3 : Nat) ≠ 0) ∨ ((t_addVat σ p0) = 3 ∧ (0 : Nat) ≠ 0) := by
  simp only [tD, tL, tV, tO, tW, tLV, tN, t_needs, t_plannedAt, t_shadeOf, t_dist, t_near, t_cell, t_byLight, t_dues, t_share, t_mean, okW, t_setDye, t_supply, t_plan, t_unplan, t_dye, t_addVat, t_addLot, t_addOrder, t_addRecipe, t_firstOf]
  (repeat' split) <;> decide
theorem tc_needs (σ : Sg) (p0 p1 : Int32) : (t_needs σ p0 p1) = 0 ∨ (t_needs σ p0 p1) = 1 ∨ ((t_needs σ p0 p1) = 2 ∧ (2 : Nat) ≠ 0) ∨ ((t_needs σ p0 p1) = 3 ∧ (0 : Nat) ≠ 0) := by
  simp only [tD, tL, tV, tO, tW, tLV, tN, t_needs, t_plannedAt, t_shadeOf, t_dist, t_near, t_cell, t_byLight, t_dues, t_share, t_mean, okW, t_setDye, t_supply, t_plan, t_unplan, t_dye, t_addVat, t_addLot, t_addOrder, t_addRecipe, t_firstOf]
  (repeat' split) <;> decide
theorem tc_hoursFor (σ : Sg) (p0 : Int32) : (tL σ p0) = 0 ∨ (tL σ p0) = 1 ∨ ((tL σ p0) = 2 ∧ (0 : Nat) ≠ 0) ∨ ((tL σ p0) = 3 ∧ (0 : Nat) ≠ 0) := by
  simp only [tD, tL, tV, tO, tW, tLV, tN, t_needs, t_plannedAt, t_shadeOf, t_dist, t_near, t_cell, t_byLight, t_dues, t_share, t_mean, okW, t_setDye, t_supply, t_plan, t_unplan, t_dye, t_addVat, t_addLot, t_addOrder, t_addRecipe, t_firstOf]
  (repeat' split) <;> decide
theorem tc_reason (σ : Sg) (p0 p1 : Int32) : (tLV σ p0 p1) = 0 ∨ (tLV σ p0 p1) = 1 ∨ ((tLV σ p0 p1) = 2 ∧ (0 : Nat) ≠ 0) ∨ ((tLV σ p0 p1) = 3 ∧ (0 : Nat) ≠ 0) := by
  simp only [tD, tL, tV, tO, tW, tLV, tN, t_needs, t_plannedAt, t_shadeOf, t_dist, t_near, t_cell, t_byLight, t_dues, t_share, t_mean, okW, t_setDye, t_supply, t_plan, t_unplan, t_dye, t_addVat, t_addLot, t_addOrder, t_addRecipe, t_firstOf]
  (repeat' split) <;> decide
theorem tc_dye (σ : Sg) (p0 p1 p2 p3 p4 : Int32) : (t_dye σ p0 p1 p2 p3 p4) = 0 ∨ (t_dye σ p0 p1 p2 p3 p4) = 1 ∨ ((t_dye σ p0 p1 p2 p3 p4) = 2 ∧ (2 : Nat) ≠ 0) ∨ ((t_dye σ p0 p1 p2 p3 p4) = 3 ∧ (4 : Nat) ≠ 0) := by
  simp only [tD, tL, tV, tO, tW, tLV, tN, t_needs, t_plannedAt, t_shadeOf, t_dist, t_near, t_cell, t_byLight, t_dues, t_share, t_mean, okW, t_setDye, t_supply, t_plan, t_unplan, t_dye, t_addVat, t_addLot, t_addOrder, t_addRecipe, t_firstOf]
  (repeat' split) <;> decide
theorem tc_clean (σ : Sg) (p0 : Int32) : (tV σ p0) = 0 ∨ (tV σ p0) = 1 ∨ ((tV σ p0) = 2 ∧ (0 : Nat) ≠ 0) ∨ ((tV σ p0) = 3 ∧ (0 : Nat) ≠ 0) := by
  simp only [tD, tL, tV, tO, tW, tLV, tN, t_needs, t_plannedAt, t_shadeOf, t_dist, t_near, t_cell, t_byLight, t_dues, t_share, t_mean, okW, t_setDye, t_supply, t_plan, t_unplan, t_dye, t_addVat, t_addLot, t_addOrder, t_addRecipe, t_firstOf]
  (repeat' split) <;> decide
theorem tc_verdict (σ : Sg) (p0 : Int32) : (tN σ p0 100) = 0 ∨ (tN σ p0 100) = 1 ∨ ((tN σ p0 100) = 2 ∧ (3 : Nat) ≠ 0) ∨ ((tN σ p0 100) = 3 ∧ (0 : Nat) ≠ 0) := by
  simp only [tD, tL, tV, tO, tW, tLV, tN, t_needs, t_plannedAt, t_shadeOf, t_dist, t_near, t_cell, t_byLight, t_dues, t_share, t_mean, okW, t_setDye, t_supply, t_plan, t_unplan, t_dye, t_addVat, t_addLot, t_addOrder, t_addRecipe, t_firstOf]
  (repeat' split) <;> decide
theorem tc_judge (σ : Sg) (p0 : Int32) : (tN σ p0 100) = 0 ∨ (tN σ p0 100) = 1 ∨ ((tN σ p0 100) = 2 ∧ (3 : Nat) ≠ 0) ∨ ((tN σ p0 100) = 3 ∧ (0 : Nat) ≠ 0) := by
  simp only [tD, tL, tV, tO, tW, tLV, tN, t_needs, t_plannedAt, t_shadeOf, t_dist, t_near, t_cell, t_byLight, t_dues, t_share, t_mean, okW, t_setDye, t_supply, t_plan, t_unplan, t_dye, t_addVat, t_addLot, t_addOrder, t_addRecipe, t_firstOf]
  (repeat' split) <;> decide
theorem tc_again (σ : Sg) (p0 : Int32) : (tN σ p0 120) = 0 ∨ (tN σ p0 120) = 1 ∨ ((tN σ p0 120) = 2 ∧ (3 : Nat) ≠ 0) ∨ ((tN σ p0 120) = 3 ∧ (0 : Nat) ≠ 0) := by
  simp only [tD, tL, tV, tO, tW, tLV, tN, t_needs, t_plannedAt, t_shadeOf, t_dist, t_near, t_cell, t_byLight, t_dues, t_share, t_mean, okW, t_setDye, t_supply, t_plan, t_unplan, t_dye, t_addVat, t_addLot, t_addOrder, t_addRecipe, t_firstOf]
  (repeat' split) <;> decide
theorem tc_plan (σ : Sg) (p0 p1 : Int32) : (t_plan σ p0 p1) = 0 ∨ (t_plan σ p0 p1) = 1 ∨ ((t_plan σ p0 p1) = 2 ∧ (3 : Nat) ≠ 0) ∨ ((t_plan σ p0 p1) = 3 ∧ (4 : Nat) ≠ 0) := by
  simp only [tD, tL, tV, tO, tW, tLV, tN, t_needs, t_plannedAt, t_shadeOf, t_dist, t_near, t_cell, t_byLight, t_dues, t_share, t_mean, okW, t_setDye, t_supply, t_plan, t_unplan, t_dye, t_addVat, t_addLot, t_addOrder, t_addRecipe, t_firstOf]
  (repeat' split) <;> decide
theorem tc_unplan (σ : Sg) (p0 : Int32) : (t_unplan σ p0) = 0 ∨ (t_unplan σ p0) = 1 ∨ ((t_unplan σ p0) = 2 ∧ (3 : Nat) ≠ 0) ∨ ((t_unplan σ p0) = 3 ∧ (0 : Nat) ≠ 0) := by
  simp only [tD, tL, tV, tO, tW, tLV, tN, t_needs, t_plannedAt, t_shadeOf, t_dist, t_near, t_cell, t_byLight, t_dues, t_share, t_mean, okW, t_setDye, t_supply, t_plan, t_unplan, t_dye, t_addVat, t_addLot, t_addOrder, t_addRecipe, t_firstOf]
  (repeat' split) <;> decide
theorem tc_planned (σ : Sg) (p0 : Int32) : (tV σ p0) = 0 ∨ (tV σ p0) = 1 ∨ ((tV σ p0) = 2 ∧ (0 : Nat) ≠ 0) ∨ ((tV σ p0) = 3 ∧ (0 : Nat) ≠ 0) := by
  simp only [tD, tL, tV, tO, tW, tLV, tN, t_needs, t_plannedAt, t_shadeOf, t_dist, t_near, t_cell, t_byLight, t_dues, t_share, t_mean, okW, t_setDye, t_supply, t_plan, t_unplan, t_dye, t_addVat, t_addLot, t_addOrder, t_addRecipe, t_firstOf]
  (repeat' split) <;> decide
theorem tc_plannedAt (σ : Sg) (p0 p1 : Int32) : (t_plannedAt σ p0 p1) = 0 ∨ (t_plannedAt σ p0 p1) = 1 ∨ ((t_plannedAt σ p0 p1) = 2 ∧ (5 : Nat) ≠ 0) ∨ ((t_plannedAt σ p0 p1) = 3 ∧ (0 : Nat) ≠ 0) := by
  simp only [tD, tL, tV, tO, tW, tLV, tN, t_needs, t_plannedAt, t_shadeOf, t_dist, t_near, t_cell, t_byLight, t_dues, t_share, t_mean, okW, t_setDye, t_supply, t_plan, t_unplan, t_dye, t_addVat, t_addLot, t_addOrder, t_addRecipe, t_firstOf]
  (repeat' split) <;> decide
theorem tc_leastHours (σ : Sg) (p0 : Int32) : (tV σ p0) = 0 ∨ (tV σ p0) = 1 ∨ ((tV σ p0) = 2 ∧ (0 : Nat) ≠ 0) ∨ ((tV σ p0) = 3 ∧ (0 : Nat) ≠ 0) := by
  simp only [tD, tL, tV, tO, tW, tLV, tN, t_needs, t_plannedAt, t_shadeOf, t_dist, t_near, t_cell, t_byLight, t_dues, t_share, t_mean, okW, t_setDye, t_supply, t_plan, t_unplan, t_dye, t_addVat, t_addLot, t_addOrder, t_addRecipe, t_firstOf]
  (repeat' split) <;> decide
theorem tc_leastByAll (σ : Sg) (p0 : Int32) : (tV σ p0) = 0 ∨ (tV σ p0) = 1 ∨ ((tV σ p0) = 2 ∧ (0 : Nat) ≠ 0) ∨ ((tV σ p0) = 3 ∧ (0 : Nat) ≠ 0) := by
  simp only [tD, tL, tV, tO, tW, tLV, tN, t_needs, t_plannedAt, t_shadeOf, t_dist, t_near, t_cell, t_byLight, t_dues, t_share, t_mean, okW, t_setDye, t_supply, t_plan, t_unplan, t_dye, t_addVat, t_addLot, t_addOrder, t_addRecipe, t_firstOf]
  (repeat' split) <;> decide
theorem tc_firstOf (σ : Sg) (p0 : Int32) : (t_firstOf σ p0) = 0 ∨ (t_firstOf σ p0) = 1 ∨ ((t_firstOf σ p0) = 2 ∧ (3 : Nat) ≠ 0) ∨ ((t_firstOf σ p0) = 3 ∧ (0 : Nat) ≠ 0) := by
  simp only [tD, tL, tV, tO, tW, tLV, tN, t_needs, t_plannedAt, t_shadeOf, t_dist, t_near, t_cell, t_byLight, t_dues, t_share, t_mean, okW, t_setDye, t_supply, t_plan, t_unplan, t_dye, t_addVat, t_addLot, t_addOrder, t_addRecipe, t_firstOf]
  (repeat' split) <;> decide
theorem tc_stateOf (σ : Sg) (p0 : Int32) : (tL σ p0) = 0 ∨ (tL σ p0) = 1 ∨ ((tL σ p0) = 2 ∧ (0 : Nat) ≠ 0) ∨ ((tL σ p0) = 3 ∧ (0 : Nat) ≠ 0) := by
  simp only [tD, tL, tV, tO, tW, tLV, tN, t_needs, t_plannedAt, t_shadeOf, t_dist, t_near, t_cell, t_byLight, t_dues, t_share, t_mean, okW, t_setDye, t_supply, t_plan, t_unplan, t_dye, t_addVat, t_addLot, t_addOrder, t_addRecipe, t_firstOf]
  (repeat' split) <;> decide
theorem tc_shadeOf (σ : Sg) (p0 p1 : Int32) : (t_shadeOf σ p0 p1) = 0 ∨ (t_shadeOf σ p0 p1) = 1 ∨ ((t_shadeOf σ p0 p1) = 2 ∧ (3 : Nat) ≠ 0) ∨ ((t_shadeOf σ p0 p1) = 3 ∧ (5 : Nat) ≠ 0) := by
  simp only [tD, tL, tV, tO, tW, tLV, tN, t_needs, t_plannedAt, t_shadeOf, t_dist, t_near, t_cell, t_byLight, t_dues, t_share, t_mean, okW, t_setDye, t_supply, t_plan, t_unplan, t_dye, t_addVat, t_addLot, t_addOrder, t_addRecipe, t_firstOf]
  (repeat' split) <;> decide
theorem tc_vatOf (σ : Sg) (p0 : Int32) : (tW σ p0) = 0 ∨ (tW σ p0) = 1 ∨ ((tW σ p0) = 2 ∧ (3 : Nat) ≠ 0) ∨ ((tW σ p0) = 3 ∧ (0 : Nat) ≠ 0) := by
  simp only [tD, tL, tV, tO, tW, tLV, tN, t_needs, t_plannedAt, t_shadeOf, t_dist, t_near, t_cell, t_byLight, t_dues, t_share, t_mean, okW, t_setDye, t_supply, t_plan, t_unplan, t_dye, t_addVat, t_addLot, t_addOrder, t_addRecipe, t_firstOf]
  (repeat' split) <;> decide
theorem tc_offBy (σ : Sg) (p0 : Int32) : (tW σ p0) = 0 ∨ (tW σ p0) = 1 ∨ ((tW σ p0) = 2 ∧ (3 : Nat) ≠ 0) ∨ ((tW σ p0) = 3 ∧ (0 : Nat) ≠ 0) := by
  simp only [tD, tL, tV, tO, tW, tLV, tN, t_needs, t_plannedAt, t_shadeOf, t_dist, t_near, t_cell, t_byLight, t_dues, t_share, t_mean, okW, t_setDye, t_supply, t_plan, t_unplan, t_dye, t_addVat, t_addLot, t_addOrder, t_addRecipe, t_firstOf]
  (repeat' split) <;> decide
theorem tc_distance (σ : Sg) (p0 p1 : Int32) : (t_dist σ p0 p1) = 0 ∨ (t_dist σ p0 p1) = 1 ∨ ((t_dist σ p0 p1) = 2 ∧ (3 : Nat) ≠ 0) ∨ ((t_dist σ p0 p1) = 3 ∧ (0 : Nat) ≠ 0) := by
  simp only [tD, tL, tV, tO, tW, tLV, tN, t_needs, t_plannedAt, t_shadeOf, t_dist, t_near, t_cell, t_byLight, t_dues, t_share, t_mean, okW, t_setDye, t_supply, t_plan, t_unplan, t_dye, t_addVat, t_addLot, t_addOrder, t_addRecipe, t_firstOf]
  (repeat' split) <;> decide
theorem tc_nearest (σ : Sg) (p0 : Int32) : (t_near σ p0) = 0 ∨ (t_near σ p0) = 1 ∨ ((t_near σ p0) = 2 ∧ (3 : Nat) ≠ 0) ∨ ((t_near σ p0) = 3 ∧ (4 : Nat) ≠ 0) := by
  simp only [tD, tL, tV, tO, tW, tLV, tN, t_needs, t_plannedAt, t_shadeOf, t_dist, t_near, t_cell, t_byLight, t_dues, t_share, t_mean, okW, t_setDye, t_supply, t_plan, t_unplan, t_dye, t_addVat, t_addLot, t_addOrder, t_addRecipe, t_firstOf]
  (repeat' split) <;> decide
theorem tc_byLight (σ : Sg) (p0 : Int32) : (t_byLight σ p0) = 0 ∨ (t_byLight σ p0) = 1 ∨ ((t_byLight σ p0) = 2 ∧ (0 : Nat) ≠ 0) ∨ ((t_byLight σ p0) = 3 ∧ (0 : Nat) ≠ 0) := by
  simp only [tD, tL, tV, tO, tW, tLV, tN, t_needs, t_plannedAt, t_shadeOf, t_dist, t_near, t_cell, t_byLight, t_dues, t_share, t_mean, okW, t_setDye, t_supply, t_plan, t_unplan, t_dye, t_addVat, t_addLot, t_addOrder, t_addRecipe, t_firstOf]
  (repeat' split) <;> decide
theorem tc_clock (σ : Sg) (p0 : Int32) : (tV σ p0) = 0 ∨ (tV σ p0) = 1 ∨ ((tV σ p0) = 2 ∧ (0 : Nat) ≠ 0) ∨ ((tV σ p0) = 3 ∧ (0 : Nat) ≠ 0) := by
  simp only [tD, tL, tV, tO, tW, tLV, tN, t_needs, t_plannedAt, t_shadeOf, t_dist, t_near, t_cell, t_byLight, t_dues, t_share, t_mean, okW, t_setDye, t_supply, t_plan, t_unplan, t_dye, t_addVat, t_addLot, t_addOrder, t_addRecipe, t_firstOf]
  (repeat' split) <;> decide
theorem tc_cleanings (σ : Sg) (p0 : Int32) : (tV σ p0) = 0 ∨ (tV σ p0) = 1 ∨ ((tV σ p0) = 2 ∧ (0 : Nat) ≠ 0) ∨ ((tV σ p0) = 3 ∧ (0 : Nat) ≠ 0) := by
  simp only [tD, tL, tV, tO, tW, tLV, tN, t_needs, t_plannedAt, t_shadeOf, t_dist, t_near, t_cell, t_byLight, t_dues, t_share, t_mean, okW, t_setDye, t_supply, t_plan, t_unplan, t_dye, t_addVat, t_addLot, t_addOrder, t_addRecipe, t_firstOf]
  (repeat' split) <;> decide
theorem tc_lightIn (σ : Sg) (p0 : Int32) : (t_cell σ 23 p0) = 0 ∨ (t_cell σ 23 p0) = 1 ∨ ((t_cell σ 23 p0) = 2 ∧ (3 : Nat) ≠ 0) ∨ ((t_cell σ 23 p0) = 3 ∧ (0 : Nat) ≠ 0) := by
  simp only [tD, tL, tV, tO, tW, tLV, tN, t_needs, t_plannedAt, t_shadeOf, t_dist, t_near, t_cell, t_byLight, t_dues, t_share, t_mean, okW, t_setDye, t_supply, t_plan, t_unplan, t_dye, t_addVat, t_addLot, t_addOrder, t_addRecipe, t_firstOf]
  (repeat' split) <;> decide
theorem tc_customerOf (σ : Sg) (p0 : Int32) : (t_cell σ 24 p0) = 0 ∨ (t_cell σ 24 p0) = 1 ∨ ((t_cell σ 24 p0) = 2 ∧ (3 : Nat) ≠ 0) ∨ ((t_cell σ 24 p0) = 3 ∧ (0 : Nat) ≠ 0) := by
  simp only [tD, tL, tV, tO, tW, tLV, tN, t_needs, t_plannedAt, t_shadeOf, t_dist, t_near, t_cell, t_byLight, t_dues, t_share, t_mean, okW, t_setDye, t_supply, t_plan, t_unplan, t_dye, t_addVat, t_addLot, t_addOrder, t_addRecipe, t_firstOf]
  (repeat' split) <;> decide
theorem tc_lotsOf (σ : Sg) (p0 : Int32) : (tO σ p0) = 0 ∨ (tO σ p0) = 1 ∨ ((tO σ p0) = 2 ∧ (0 : Nat) ≠ 0) ∨ ((tO σ p0) = 3 ∧ (0 : Nat) ≠ 0) := by
  simp only [tD, tL, tV, tO, tW, tLV, tN, t_needs, t_plannedAt, t_shadeOf, t_dist, t_near, t_cell, t_byLight, t_dues, t_share, t_mean, okW, t_setDye, t_supply, t_plan, t_unplan, t_dye, t_addVat, t_addLot, t_addOrder, t_addRecipe, t_firstOf]
  (repeat' split) <;> decide
theorem tc_passedOf (σ : Sg) (p0 : Int32) : (tO σ p0) = 0 ∨ (tO σ p0) = 1 ∨ ((tO σ p0) = 2 ∧ (0 : Nat) ≠ 0) ∨ ((tO σ p0) = 3 ∧ (0 : Nat) ≠ 0) := by
  simp only [tD, tL, tV, tO, tW, tLV, tN, t_needs, t_plannedAt, t_shadeOf, t_dist, t_near, t_cell, t_byLight, t_dues, t_share, t_mean, okW, t_setDye, t_supply, t_plan, t_unplan, t_dye, t_addVat, t_addLot, t_addOrder, t_addRecipe, t_firstOf]
  (repeat' split) <;> decide
theorem tc_spread (σ : Sg) (p0 : Int32) : (tO σ p0) = 0 ∨ (tO σ p0) = 1 ∨ ((tO σ p0) = 2 ∧ (0 : Nat) ≠ 0) ∨ ((tO σ p0) = 3 ∧ (0 : Nat) ≠ 0) := by
  simp only [tD, tL, tV, tO, tW, tLV, tN, t_needs, t_plannedAt, t_shadeOf, t_dist, t_near, t_cell, t_byLight, t_dues, t_share, t_mean, okW, t_setDye, t_supply, t_plan, t_unplan, t_dye, t_addVat, t_addLot, t_addOrder, t_addRecipe, t_firstOf]
  (repeat' split) <;> decide
theorem tc_lateBy (σ : Sg) (p0 : Int32) : (tO σ p0) = 0 ∨ (tO σ p0) = 1 ∨ ((tO σ p0) = 2 ∧ (0 : Nat) ≠ 0) ∨ ((tO σ p0) = 3 ∧ (0 : Nat) ≠ 0) := by
  simp only [tD, tL, tV, tO, tW, tLV, tN, t_needs, t_plannedAt, t_shadeOf, t_dist, t_near, t_cell, t_byLight, t_dues, t_share, t_mean, okW, t_setDye, t_supply, t_plan, t_unplan, t_dye, t_addVat, t_addLot, t_addOrder, t_addRecipe, t_firstOf]
  (repeat' split) <;> decide
theorem tc_due (σ : Sg) (p0 : Int32) : (tO σ p0) = 0 ∨ (tO σ p0) = 1 ∨ ((tO σ p0) = 2 ∧ (0 : Nat) ≠ 0) ∨ ((tO σ p0) = 3 ∧ (0 : Nat) ≠ 0) := by
  simp only [tD, tL, tV, tO, tW, tLV, tN, t_needs, t_plannedAt, t_shadeOf, t_dist, t_near, t_cell, t_byLight, t_dues, t_share, t_mean, okW, t_setDye, t_supply, t_plan, t_unplan, t_dye, t_addVat, t_addLot, t_addOrder, t_addRecipe, t_firstOf]
  (repeat' split) <;> decide
theorem tc_dues (σ : Sg) (p0 : Int32) : (t_dues p0) = 0 ∨ (t_dues p0) = 1 ∨ ((t_dues p0) = 2 ∧ (0 : Nat) ≠ 0) ∨ ((t_dues p0) = 3 ∧ (0 : Nat) ≠ 0) := by
  simp only [tD, tL, tV, tO, tW, tLV, tN, t_needs, t_plannedAt, t_shadeOf, t_dist, t_near, t_cell, t_byLight, t_dues, t_share, t_mean, okW, t_setDye, t_supply, t_plan, t_unplan, t_dye, t_addVat, t_addLot, t_addOrder, t_addRecipe, t_firstOf]
  (repeat' split) <;> decide
theorem tc_used (σ : Sg) (p0 : Int32) : (tD p0) = 0 ∨ (tD p0) = 1 ∨ ((tD p0) = 2 ∧ (0 : Nat) ≠ 0) ∨ ((tD p0) = 3 ∧ (0 : Nat) ≠ 0) := by
  simp only [tD, tL, tV, tO, tW, tLV, tN, t_needs, t_plannedAt, t_shadeOf, t_dist, t_near, t_cell, t_byLight, t_dues, t_share, t_mean, okW, t_setDye, t_supply, t_plan, t_unplan, t_dye, t_addVat, t_addLot, t_addOrder, t_addRecipe, t_firstOf]
  (repeat' split) <;> decide
theorem tc_passedShare (σ : Sg) : (t_share σ) = 0 ∨ (t_share σ) = 1 ∨ ((t_share σ) = 2 ∧ (0 : Nat) ≠ 0) ∨ ((t_share σ) = 3 ∧ (0 : Nat) ≠ 0) := by
  simp only [tD, tL, tV, tO, tW, tLV, tN, t_needs, t_plannedAt, t_shadeOf, t_dist, t_near, t_cell, t_byLight, t_dues, t_share, t_mean, okW, t_setDye, t_supply, t_plan, t_unplan, t_dye, t_addVat, t_addLot, t_addOrder, t_addRecipe, t_firstOf]
  (repeat' split) <;> decide
theorem tc_meanOff (σ : Sg) : (t_mean σ) = 0 ∨ (t_mean σ) = 1 ∨ ((t_mean σ) = 2 ∧ (0 : Nat) ≠ 0) ∨ ((t_mean σ) = 3 ∧ (0 : Nat) ≠ 0) := by
  simp only [tD, tL, tV, tO, tW, tLV, tN, t_needs, t_plannedAt, t_shadeOf, t_dist, t_near, t_cell, t_byLight, t_dues, t_share, t_mean, okW, t_setDye, t_supply, t_plan, t_unplan, t_dye, t_addVat, t_addLot, t_addOrder, t_addRecipe, t_firstOf]
  (repeat' split) <;> decide
theorem share_ne {σ : Sg} (h : t_share σ = 0) : ¬ c_st σ 112 (nL σ) + c_st σ 120 (nL σ) = 0 := fun q => by
  unfold t_share at h
  rw [if_pos q] at h
  exact absurd h (by decide)
theorem vf_us9 {f : Nat → UInt64} {x : UInt64} : vf_upd f 0 x 0 = x := if_pos rfl
