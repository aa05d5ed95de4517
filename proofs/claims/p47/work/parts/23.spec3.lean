/-! ===== the reference's calls that change its rows ===== -/
theorem cnt_room {σ : Sg} {k M : Nat} (h : CN σ k M) (hM : M ≤ 1000) (c : ¬ σ k 0 = nI M) : vp_in (σ k 0) M := by
  obtain ⟨n, h1, h2⟩ := h
  rw [h2] at c ⊢
  have : n ≠ M := fun e => c (by rw [e])
  exact vp_in_nI (by omega) (by omega)
theorem vatI {σ : Sg} (hI : INV σ) {l : Int32} (hl : vp_in l (nL σ)) (hs : ¬ σ 21 (ti l) = 119) : vp_in (σ 17 (ti l)) (nV σ) := hI.2.2.2.2.2.1 _ (vin_lt hl) hs
def t_addRecipe (σ : Sg) (a b d : Int32) : Int32 := if shP a b d then (if σ 1 0 = 8 then 2 else 0) else 1
def F_addRecipe (σ : Sg) (a b d : Int32) : Sg := if t_addRecipe σ a b d = 0 then up (up (up (up (up σ 0 0 0) 5 (ti (3 * σ 1 0)) a) 5 (ti (3 * σ 1 0 + 1)) b) 5 (ti (3 * σ 1 0 + 2)) d) 1 0 (σ 1 0 + 1) else up σ 0 0 (t_addRecipe σ a b d)
def t_setDye (σ : Sg) (r d x : Int32) : Int32 := if okR σ r then (if okD d ∧ isP x 0 5000 then 0 else 2) else 1
def F_setDye (σ : Sg) (r d x : Int32) : Sg := if t_setDye σ r d x = 0 then up (up σ 0 0 0) 6 (ti (3 * r + d)) x else up σ 0 0 (t_setDye σ r d x)
def t_supply (σ : Sg) (d x : Int32) : Int32 := if okD d ∧ isP x 1 99999 then (if 9999999 < σ 7 (ti d) + x then 2 else 0) else 1
def F_supply (σ : Sg) (d x : Int32) : Sg := if t_supply σ d x = 0 then up (up σ 0 0 0) 7 (ti d) (σ 7 (ti d) + x) else up σ 0 0 (t_supply σ d x)
def t_addOrder (σ : Sg) (w r b d x : Int32) : Int32 := if okR σ r then (if isP w 0 3 ∧ isP b 0 30 ∧ isP d 0 99 ∧ isP x 0 99 then (if σ 2 0 = 6 then 3 else 0) else 2) else 1
def F_addOrder (σ : Sg) (w r b d x : Int32) : Sg := if t_addOrder σ w r b d x = 0 then up (up (up (up (up (up (up σ 0 0 0) 9 (ti (σ 2 0)) w) 10 (ti (σ 2 0)) r) 11 (ti (σ 2 0)) b) 12 (ti (σ 2 0)) d) 13 (ti (σ 2 0)) x) 2 0 (σ 2 0 + 1) else up σ 0 0 (t_addOrder σ w r b d x)
def t_addLot (σ : Sg) (o x : Int32) : Int32 := if okO σ o then (if isP x 1 200 then (if σ 3 0 = 24 then 3 else 0) else 2) else 1
def F_addLot (σ : Sg) (o x : Int32) : Sg := if t_addLot σ o x = 0 then up (up (up (up (up (up σ 0 0 0) 14 (ti (σ 3 0)) o) 15 (ti (σ 3 0)) x) 21 (ti (σ 3 0)) 119) 20 (ti (σ 3 0)) (-1)) 3 0 (σ 3 0 + 1) else up σ 0 0 (t_addLot σ o x)
def t_addVat (σ : Sg) (x : Int32) : Int32 := if isP x 10 300 then (if σ 4 0 = 4 then 2 else 0) else 1
def F_addVat (σ : Sg) (x : Int32) : Sg := if t_addVat σ x = 0 then up (up (up (up (up σ 0 0 0) 22 (ti (σ 4 0)) x) 23 (ti (σ 4 0)) (-1)) 24 (ti (σ 4 0)) (-1)) 4 0 (σ 4 0 + 1) else up σ 0 0 (t_addVat σ x)
def t_dye (σ : Sg) (l v a b d : Int32) : Int32 := if okL σ l ∧ okV σ v then (if shP a b d then (if f_why σ l v = 45 then 0 else 3) else 2) else 1
def C_dye (σ : Sg) (l v a b d : Int32) : Sg := up (up (up (up (up (up (up (up (up (up (up (up (up (up σ 0 0 0) 7 0 (σ 7 0 - f_needed σ l 0)) 7 1 (σ 7 1 - f_needed σ l 1)) 7 2 (σ 7 2 - f_needed σ l 2)) 16 (ti (3 * l)) a) 16 (ti (3 * l + 1)) b) 16 (ti (3 * l + 2)) d) 21 (ti l) 100) 20 (ti l) (-1)) 17 (ti l) v) 23 (ti v) a) 25 (ti v) (σ 25 (ti v) + f_hours σ l)) 18 (ti l) (σ 25 (ti v) + f_hours σ l)) 19 (ti l) (σ 26 (ti v))
def F_dye (σ : Sg) (l v a b d : Int32) : Sg := if t_dye σ l v a b d = 0 then C_dye σ l v a b d else up σ 0 0 (t_dye σ l v a b d)
def u_dye (σ : Sg) (u : Nat → Int64) (l v a b d : Int32) : Nat → Int64 := if t_dye σ l v a b d = 0 then vp_updL (vp_updL (vp_updL u 0 (u 0 + (f_needed σ l 0).toInt64)) 1 (u 1 + (f_needed σ l 1).toInt64)) 2 (u 2 + (f_needed σ l 2).toInt64) else u
def F_clean (σ : Sg) (v : Int32) : Sg := if okV σ v then up (up (up (up (up σ 0 0 0) 23 (ti v) (-1)) 24 (ti v) (-1)) 26 (ti v) (σ 26 (ti v) + 1)) 25 (ti v) (σ 25 (ti v) + 3) else up σ 0 0 1
def F_judge (σ : Sg) (l : Int32) : Sg := if okL σ l ∧ σ 21 (ti l) = 100 then (if f_judged σ l = 112 then (if σ 19 (ti l) = σ 26 (ti (σ 17 (ti l))) then up (up (up σ 0 0 0) 21 (ti l) 112) 24 (ti (σ 17 (ti l))) (f_cust σ l) else up (up σ 0 0 0) 21 (ti l) 112) else up (up σ 0 0 0) 21 (ti l) 120) else up σ 0 0 (tN σ l 100)
def F_again (σ : Sg) (l : Int32) : Sg := if okL σ l ∧ σ 21 (ti l) = 120 then up (up σ 0 0 0) 21 (ti l) 119 else up σ 0 0 (tN σ l 120)
def t_plan (σ : Sg) (l v : Int32) : Int32 := if okL σ l ∧ okV σ v then (if ¬ σ 21 (ti l) = 119 ∨ ¬ σ 20 (ti l) = -1 ∨ f_inPlan σ v = 6 then 2 else if σ 22 (ti v) < σ 15 (ti l) then 3 else 0) else 1
def F_plan (σ : Sg) (l v : Int32) : Sg := if t_plan σ l v = 0 then up (up σ 0 0 0) 20 (ti l) v else up σ 0 0 (t_plan σ l v)
def t_unplan (σ : Sg) (l : Int32) : Int32 := if okL σ l then (if σ 20 (ti l) = -1 then 2 else 0) else 1
def F_unplan (σ : Sg) (l : Int32) : Sg := if t_unplan σ l = 0 then up (up σ 0 0 0) 20 (ti l) (-1) else up σ 0 0 (t_unplan σ l)
def t_byLight (σ : Sg) (place : Int32) : Int32 := if f_byLight σ place = -1 then 1 else 0
def t_dues (w : Int32) : Int32 := if isP w 0 3 then 0 else 1
theorem MS.cg2 {g : EG} {lo : Nat} {ma : Nat → Nat} {σ σ' : Sg} {u u' : Nat → Int64} {H0 H : Heap} {locs : List Loc} (h : MS g lo ma σ u H0 H locs) (e : σ = σ') (e2 : u = u') : MS g lo ma σ' u' H0 H locs := e ▸ e2 ▸ h
