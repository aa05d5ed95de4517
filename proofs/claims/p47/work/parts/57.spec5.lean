/-! ===== the reference's orders of a plan ===== -/
/-- hours so far, the shade's light and the customer in the vat, behind the first lots of the row -/
def lsF (σ : Sg) (v : Int32) : Nat → Int32 × Int32 × Int32
  | 0 => (0, σ 23 (ti v), σ 24 (ti v))
  | j + 1 => if (¬ (lsF σ v j).2.1 = -1 ∧ (lsF σ v j).2.1 < f_lightOf σ (σ 27 j)) ∨ (¬ (lsF σ v j).2.2 = -1 ∧ ¬ (lsF σ v j).2.2 = f_cust σ (σ 27 j)) then ((lsF σ v j).1 + 3 + f_hours σ (σ 27 j), f_lightOf σ (σ 27 j), -1) else ((lsF σ v j).1 + f_hours σ (σ 27 j), f_lightOf σ (σ 27 j), (lsF σ v j).2.2)
theorem lsF_c {σ : Sg} {v : Int32} {j : Nat} (h : (¬ (lsF σ v j).2.1 = -1 ∧ (lsF σ v j).2.1 < f_lightOf σ (σ 27 j)) ∨ (¬ (lsF σ v j).2.2 = -1 ∧ ¬ (lsF σ v j).2.2 = f_cust σ (σ 27 j))) : lsF σ v (j + 1) = ((lsF σ v j).1 + 3 + f_hours σ (σ 27 j), f_lightOf σ (σ 27 j), -1) := if_pos h
theorem lsF_n {σ : Sg} {v : Int32} {j : Nat} (h : ¬ ((¬ (lsF σ v j).2.1 = -1 ∧ (lsF σ v j).2.1 < f_lightOf σ (σ 27 j)) ∨ (¬ (lsF σ v j).2.2 = -1 ∧ ¬ (lsF σ v j).2.2 = f_cust σ (σ 27 j)))) : lsF σ v (j + 1) = ((lsF σ v j).1 + f_hours σ (σ 27 j), f_lightOf σ (σ 27 j), (lsF σ v j).2.2) := if_neg h
