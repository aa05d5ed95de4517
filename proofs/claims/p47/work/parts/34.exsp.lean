/-! ===== what the class throws, by number ===== -/
theorem bad1 : ∀ w ∈ (vx_at0 RX6 271 (en 1) exN).filter (fun w => !goodWord w), w ∈ xwl := by decide +kernel
theorem bad2 : ∀ w ∈ (vx_at0 RX6 268 (en 2) exN).filter (fun w => !goodWord w), w ∈ xwl := by decide +kernel
theorem bad3 : ∀ w ∈ (vx_at0 RX6 58 (en 3) exN).filter (fun w => !goodWord w), w ∈ xwl := by decide +kernel
theorem bad4 : ∀ w ∈ (vx_at0 RX6 129 (en 4) exN).filter (fun w => !goodWord w), w ∈ xwl := by decide +kernel
theorem bad5 : ∀ w ∈ (vx_at0 RX6 200 (en 5) exN).filter (fun w => !goodWord w), w ∈ xwl := by decide +kernel
theorem bad6 : ∀ w ∈ (vx_at0 RX6 265 (en 6) exN).filter (fun w => !goodWord w), w ∈ xwl := by decide +kernel
theorem good1 : ∀ w ∈ Cond.classLink RX6 269 (en 1) :: Cond.initialized (en 1) :: vx_at0 RX6 271 (en 1) exN, vx_ot w = true := by decide +kernel
theorem good2 : ∀ w ∈ Cond.classLink RX6 266 (en 2) :: Cond.initialized (en 2) :: vx_at0 RX6 268 (en 2) exN, vx_ot w = true := by decide +kernel
theorem good3 : ∀ w ∈ Cond.classLink RX6 56 (en 3) :: Cond.initialized (en 3) :: vx_at0 RX6 58 (en 3) exN, vx_ot w = true := by decide +kernel
theorem good4 : ∀ w ∈ Cond.classLink RX6 127 (en 4) :: Cond.initialized (en 4) :: vx_at0 RX6 129 (en 4) exN, vx_ot w = true := by decide +kernel
theorem good5 : ∀ w ∈ Cond.classLink RX6 198 (en 5) :: Cond.initialized (en 5) :: vx_at0 RX6 200 (en 5) exN, vx_ot w = true := by decide +kernel
theorem good6 : ∀ w ∈ Cond.classLink RX6 263 (en 6) :: Cond.initialized (en 6) :: vx_at0 RX6 265 (en 6) exN, vx_ot w = true := by decide +kernel
def eRg (x a b : Int32) : Nat := if isP x a b then 0 else 2
def eSh (a b d : Int32) : Nat := if shP a b d then 0 else 2
def eD (d : Int32) : Nat := if okD d then 0 else 2
def eC (w : Int32) : Nat := if isP w 0 3 then 0 else 2
def eR (σ : Sg) (n : Int32) : Nat := if okR σ n then 0 else 1
def eO (σ : Sg) (n : Int32) : Nat := if okO σ n then 0 else 1
def eL (σ : Sg) (n : Int32) : Nat := if okL σ n then 0 else 1
def eV (σ : Sg) (n : Int32) : Nat := if okV σ n then 0 else 1
def eDy (σ : Sg) (n : Int32) : Nat := if okL σ n then (if σ 21 (ti n) = 100 then 0 else 3) else 1
def eSd (σ : Sg) (n : Int32) : Nat := if okL σ n then (if σ 21 (ti n) = 119 then 3 else 0) else 1
def exOf (a b d : Nat) (t : Int32) : Nat := if t = 0 then 0 else if t = 1 then a else if t = 2 then b else d
theorem vin_of {x : Int32} {N : Nat} (hN : N ≤ 1000) (h : ¬ x < 0) (h2 : x < nI N) : vp_in x N := by
  rw [vp_in_iff]
  rw [ltI] at h h2
  rw [nI_toInt (by omega)] at h2
  have e0 : (0 : Int32).toInt = 0 := by decide
  omega
theorem vin_ltI {x : Int32} {N : Nat} (hN : N ≤ 1000) (h : vp_in x N) : x < nI N := by
  obtain ⟨j, hj, rfl⟩ := vp_in_of h (by omega)
  exact nI_lt hj (by omega)
theorem eDy0 {σ : Sg} (hI : INV σ) {i : Nat} (hi : i < nL σ) (h : eDy σ (nI i) = 0) : σ 21 i = 100 := by
  have := hI.l.1
  unfold eDy at h
  rw [ti_nI (by omega)] at h
  split at h
  · split at h
    · assumption
    · cases h
  · cases h
theorem eSd0 {σ : Sg} (hI : INV σ) {i : Nat} (hi : i < nL σ) (h : eSd σ (nI i) = 0) : ¬ σ 21 i = 119 := by
  have := hI.l.1
  unfold eSd at h
  rw [ti_nI (by omega)] at h
  split at h
  · split at h
    · cases h
    · assumption
  · cases h
theorem eR_0 {σ : Sg} (hI : INV σ) {x : Int32} (h : ¬ x < 0) (z : ti x < nR σ) : eR σ x = 0 := if_pos ((okR_in hI x).mpr (fun q => q.elim h (fun q => absurd z (Nat.not_lt.mpr q))))
theorem eR_1 {σ : Sg} (hI : INV σ) {x : Int32} (h : x < 0 ∨ ¬ ti x < nR σ ∨ ¬ x < 8) : eR σ x = 1 := if_neg (fun q => by
  have q := (okR_in hI x).mp q
  rcases h with h | h | h
  · exact q (Or.inl h)
  · exact h (vin_lt q)
  · exact h (vin_ltI (N := 8) (by decide) (vin_mono q hI.r.1)))
theorem eO_0 {σ : Sg} (hI : INV σ) {x : Int32} (h : ¬ x < 0) (z : ti x < nO σ) : eO σ x = 0 := if_pos ((okO_in hI x).mpr (fun q => q.elim h (fun q => absurd z (Nat.not_lt.mpr q))))
theorem eO_1 {σ : Sg} (hI : INV σ) {x : Int32} (h : x < 0 ∨ ¬ ti x < nO σ ∨ ¬ x < 6) : eO σ x = 1 := if_neg (fun q => by
  have q := (okO_in hI x).mp q
  rcases h with h | h | h
  · exact q (Or.inl h)
  · exact h (vin_lt q)
  · exact h (vin_ltI (N := 6) (by decide) (vin_mono q hI.o.1)))
theorem eL_0 {σ : Sg} (hI : INV σ) {x : Int32} (h : ¬ x < 0) (z : ti x < nL σ) : eL σ x = 0 := if_pos ((okL_in hI x).mpr (fun q => q.elim h (fun q => absurd z (Nat.not_lt.mpr q))))
theorem eL_1 {σ : Sg} (hI : INV σ) {x : Int32} (h : x < 0 ∨ ¬ ti x < nL σ ∨ ¬ x < 24) : eL σ x = 1 := if_neg (fun q => by
  have q := (okL_in hI x).mp q
  rcases h with h | h | h
  · exact q (Or.inl h)
  · exact h (vin_lt q)
  · exact h (vin_ltI (N := 24) (by decide) (vin_mono q hI.l.1)))
theorem eV_0 {σ : Sg} (hI : INV σ) {x : Int32} (h : ¬ x < 0) (z : ti x < nV σ) : eV σ x = 0 := if_pos ((okV_in hI x).mpr (fun q => q.elim h (fun q => absurd z (Nat.not_lt.mpr q))))
theorem eV_1 {σ : Sg} (hI : INV σ) {x : Int32} (h : x < 0 ∨ ¬ ti x < nV σ ∨ ¬ x < 4) : eV σ x = 1 := if_neg (fun q => by
  have q := (okV_in hI x).mp q
  rcases h with h | h | h
  · exact q (Or.inl h)
  · exact h (vin_lt q)
  · exact h (vin_ltI (N := 4) (by decide) (vin_mono q hI.v.1)))
