/-! ===== the reference's rows in other orders; what the least is ===== -/
def rw27 (σ : Sg) (r : Nat → Int32) : Sg := fun k => if k = 27 then r else σ k
theorem rw27_27 (σ : Sg) (r : Nat → Int32) : rw27 σ r 27 = r := if_pos rfl
theorem rw27_2 (σ : Sg) (r r' : Nat → Int32) : rw27 (rw27 σ r) r' = rw27 σ r' := funext fun k => by
  by_cases h : k = 27 <;> simp [rw27, h]
theorem rw27_id (σ : Sg) : rw27 σ (σ 27) = σ := funext fun k => by
  by_cases h : k = 27
  · subst h; exact if_pos rfl
  · exact if_neg h
theorem up27 (σ : Sg) (i : Nat) (x : Int32) : up σ 27 i x = rw27 σ (upd (σ 27) i x) := funext fun k => by
  by_cases h : k = 27
  · subst h; rw [up_same, rw27_27]
  · rw [up_ne σ i x h]; exact (if_neg h).symm
theorem up27_rw (σ : Sg) (r : Nat → Int32) (i : Nat) (x : Int32) : up (rw27 σ r) 27 i x = rw27 σ (upd r i x) := by rw [up27, rw27_27, rw27_2]
theorem sw_up (σ : Sg) (a b : Nat) : up (up σ 27 a (σ 27 b)) 27 b (σ 27 a) = rw27 σ (swG (σ 27) a b) := by
  rw [up27 σ, up27_rw]
  refine congrArg (rw27 σ) (funext fun i => ?_)
  by_cases h1 : i = b
  · subst h1; simp [upd, swG]
  · by_cases h2 : i = a
    · subst h2; simp [upd, swG, h1]
    · simp [upd, swG, h1, h2]
theorem rw_up28 (σ : Sg) (r : Nat → Int32) (t : Int32) : rw27 (up σ 28 0 t) r = up (rw27 σ r) 28 0 t := funext fun k => by
  by_cases h : k = 27
  · subst h; rfl
  · by_cases h2 : k = 28
    · subst h2; rfl
    · simp [rw27, up, h, h2]
def F_isNext (σ : Sg) (N : Nat) : Sg := if pvG lsI (σ 27) (N - 1) = 0 then σ else rw27 σ (nxG lsI (σ 27) N)
theorem pvG_s {f : Nat → Int32} {q : Nat} (h : f (q + 1) < f q) : pvG lsI f (q + 1) = pvG lsI f q := by
  simp only [pvG, lsI, decide_eq_true h, if_true]
theorem pvG_t {f : Nat → Int32} {q : Nat} (h : ¬ f (q + 1) < f q) : pvG lsI f (q + 1) = q + 1 := by
  have e : lsI (f (q + 1)) (f q) ≠ true := fun w => h (of_decide_eq_true w)
  simp only [pvG, if_neg e]
theorem otG_s {f : Nat → Int32} {x : Int32} {j : Nat} (h0 : 0 < j) (h : f j < x) : otG lsI f x j = otG lsI f x (j - 1) := by
  obtain ⟨i, rfl⟩ : ∃ i, j = i + 1 := ⟨j - 1, by omega⟩
  have e : lsI (f (i + 1)) x = true := decide_eq_true h
  simp only [otG, if_pos e, Nat.add_sub_cancel]
theorem otG_t {f : Nat → Int32} {x : Int32} {j : Nat} (h0 : 0 < j) (h : ¬ f j < x) : otG lsI f x j = j := by
  obtain ⟨i, rfl⟩ : ∃ i, j = i + 1 := ⟨j - 1, by omega⟩
  have e : lsI (f (i + 1)) x ≠ true := fun w => h (of_decide_eq_true w)
  simp only [otG, if_neg e]
theorem rvG_n {α : Type} {d a b : Nat} {f : Nat → α} (h : ¬ a < b) : rvG d f a b = f := by
  cases d with
  | zero => rfl
  | succ d => simp only [rvG, if_neg h]
theorem rvG_y {α : Type} {d a b : Nat} {f : Nat → α} (h : a < b) : rvG (d + 1) f a b = rvG d (swG f a b) (a + 1) (b - 1) := by
  simp only [rvG, if_pos h]
theorem isx_e (q : Nat) : nI (q + 2) - 2 = nI q := by
  rw [show (2 : Int32) = nI 2 from rfl, pk_sub (by omega)]
  rfl
theorem isx_2 (q : Nat) : nI (q + 1) - 2 = nI q + (-1) := by
  rw [nI_succ, Int32.sub_eq_add_neg, Int32.add_assoc]
  rfl
theorem isx_lt {z : Nat} (hz : z ≤ 1000) (h : nI z - 2 < 0) : z ≤ 1 := by
  rcases z with _ | _ | q
  · omega
  · omega
  · rw [isx_e] at h
    exact absurd h (nI_pos (by omega))
theorem isx_ge {z : Nat} (h : ¬ nI z - 2 < 0) : ∃ q, z = q + 2 := by
  rcases z with _ | _ | q
  · exact absurd (show nI 0 - 2 < 0 from by decide) h
  · exact absurd (show nI 1 - 2 < 0 from by decide) h
  · exact ⟨q, rfl⟩
theorem isx_1 {N : Nat} (h : 0 < N) : nI (N - 1) = nI N - 1 := by
  obtain ⟨q, rfl⟩ : ∃ q, N = q + 1 := ⟨N - 1, by omega⟩
  rw [nI_pred, Nat.add_sub_cancel]
theorem isx_p {j : Nat} (h : 0 < j) : nI (j - 1) = nI j + (-1) := by
  obtain ⟨q, rfl⟩ : ∃ q, j = q + 1 := ⟨j - 1, by omega⟩
  rw [pk_m1, Nat.add_sub_cancel]
/-! the planned lots, by rising numbers -/
def cntN (σ : Sg) (v : Int32) : Nat → Nat
  | 0 => 0
  | n + 1 => cntN σ v n + (if σ 20 n = v then 1 else 0)
theorem cntN_y {σ : Sg} {v : Int32} {n : Nat} (c : σ 20 n = v) : cntN σ v (n + 1) = cntN σ v n + 1 := by
  show cntN σ v n + _ = _
  rw [if_pos c]
theorem cntN_n {σ : Sg} {v : Int32} {n : Nat} (c : ¬ σ 20 n = v) : cntN σ v (n + 1) = cntN σ v n := by
  show cntN σ v n + _ = _
  rw [if_neg c, Nat.add_zero]
theorem cntN_sum (σ : Sg) (v : Int32) : ∀ n, sumF (fun j => if σ 20 j = v then 1 else 0) n = nI (cntN σ v n)
  | 0 => rfl
  | n + 1 => by
    show sumF (fun j => if σ 20 j = v then 1 else 0) n + (if σ 20 n = v then (1 : Int32) else 0) = nI (cntN σ v n + (if σ 20 n = v then 1 else 0))
    rw [cntN_sum σ v n]
    by_cases c : σ 20 n = v
    · rw [if_pos c, if_pos c]; exact nI_1 _
    · rw [if_neg c, if_neg c]; exact Int32.add_zero _
theorem cntN_le (σ : Sg) (v : Int32) : ∀ n, cntN σ v n ≤ n
  | 0 => Nat.le_refl _
  | n + 1 => by
    have := cntN_le σ v n
    show cntN σ v n + _ ≤ _
    split <;> omega
theorem cntN_mono (σ : Sg) (v : Int32) {a : Nat} : ∀ {b}, a ≤ b → cntN σ v a ≤ cntN σ v b
  | 0, h => by rw [Nat.le_zero.mp h]; exact Nat.le_refl _
  | b + 1, h => by
    rcases Nat.lt_or_ge a (b + 1) with q | q
    · exact Nat.le_trans (cntN_mono σ v (b := b) (by omega)) (Nat.le_add_right _ _)
    · rw [show a = b + 1 by omega]; exact Nat.le_refl _
theorem cntN_lt {σ : Sg} {v : Int32} {a b : Nat} (c : σ 20 a = v) (h : a < b) : cntN σ v a < cntN σ v b := by
  have h1 := cntN_mono σ v (a := a + 1) (b := b) h
  rw [cntN_y c] at h1
  omega
theorem lotAt_ex {σ : Sg} {v : Int32} {k : Nat} : ∀ (n i : Nat), i + n ≤ 1000 → cntN σ v i ≤ k → k < cntN σ v (i + n) → ∃ j, i ≤ j ∧ j < i + n ∧ σ 20 j = v ∧ cntN σ v j = k ∧ lotAtF σ v (nI k) n i = nI j
  | 0, i, _, h1, h2 => absurd (Nat.lt_of_lt_of_le h2 h1) (Nat.lt_irrefl _)
  | n + 1, i, hb, h1, h2 => by
    have hci := cntN_le σ v i
    have hck := cntN_le σ v (i + (n + 1))
    have h2' : k < cntN σ v (i + 1 + n) := by rw [show i + 1 + n = i + (n + 1) by omega]; exact h2
    by_cases c : σ 20 i = v
    · by_cases c2 : cntN σ v i = k
      · refine ⟨i, Nat.le_refl _, by omega, c, c2, ?_⟩
        rw [lotAtF, if_pos c, cntN_sum, c2, if_pos rfl]
      · have e := cntN_y (σ := σ) (v := v) c
        obtain ⟨j, a1, a2, a3, a4, a5⟩ := lotAt_ex n (i + 1) (by omega) (by omega) h2'
        refine ⟨j, by omega, by omega, a3, a4, ?_⟩
        have c3 : ¬ nI (cntN σ v i) = nI k := fun q => c2 ((nI_eq (by omega) (by omega)).mp q)
        rw [lotAtF, if_pos c, cntN_sum, if_neg c3, a5]
    · have e := cntN_n (σ := σ) (v := v) c
      obtain ⟨j, a1, a2, a3, a4, a5⟩ := lotAt_ex n (i + 1) (by omega) (by omega) h2'
      refine ⟨j, by omega, by omega, a3, a4, ?_⟩
      rw [lotAtF, if_neg c, a5]
def nP (σ : Sg) (v : Int32) : Nat := ti (f_inPlan σ v)
def bP (σ : Sg) (v : Int32) : Nat → Int32 := fun i => f_lotAt σ v (nI i)
def ltP (σ : Sg) (v : Int32) : Nat → Int32 := fun i => f_lightOf σ (bP σ v i)
def cuP (σ : Sg) (v : Int32) : Nat → Int32 := fun i => f_cust σ (bP σ v i)
def hrP (σ : Sg) (v : Int32) : Nat → Nat := fun i => min (ti (f_hours σ (bP σ v i))) 100
def rowP (σ : Sg) (v : Int32) (p : List Nat) : Nat → Int32 := fun i => if i < nP σ v then bP σ v (pF p i) else σ 27 i
def rowK (σ : Sg) (v : Int32) (k : Nat) : Nat → Int32 := fun i => if i < k then bP σ v i else σ 27 i
def cstP (σ : Sg) (v : Int32) : List Nat → Nat := costP (ltP σ v) (cuP σ v) (hrP σ v) (σ 23 (ti v)) (σ 24 (ti v))
def bestP (σ : Sg) (v : Int32) : Nat × Nat := bsL (cstP σ v) (ords (nP σ v) (nP σ v) 0)
def tkP (σ : Sg) (v : Int32) (x : Nat) : Int32 := if nP σ v = 0 then -1 else bP σ v x
def lastP (σ : Sg) (v : Int32) : List Nat := (ords (nP σ v) (nP σ v) 0).getLastD []
def F_least (σ : Sg) (v : Int32) : Sg := up (rw27 σ (rowP σ v (lastP σ v))) 28 0 (tkP σ v (bestP σ v).2)
theorem nP_cnt {σ : Sg} (hI : INV σ) (v : Int32) : nP σ v = cntN σ v (nL σ) ∧ f_inPlan σ v = nI (nP σ v) := by
  have hb := hI.l.1
  have hc := cntN_le σ v (nL σ)
  have e : f_inPlan σ v = nI (cntN σ v (nL σ)) := cntN_sum σ v _
  have e2 : nP σ v = cntN σ v (nL σ) := by
    unfold nP
    rw [e, ti_nI (by omega)]
  exact ⟨e2, by rw [e2]; exact e⟩
theorem vat_ne {σ : Sg} (hI : INV σ) {v : Int32} (kv : vp_in v (nV σ)) : ¬ v = -1 := by
  have hb := hI.v.1
  obtain ⟨j, hj, rfl⟩ := vp_in_of kv (by omega)
  exact nI_ne1 (by omega)
theorem nP_le {σ : Sg} (hI : INV σ) {v : Int32} (kv : vp_in v (nV σ)) : nP σ v ≤ 6 := by
  have hb := hI.l.1
  have hc := cntN_le σ v (nL σ)
  have h := hI.2.2.2.2.2.2.2.1 v (vat_ne hI kv)
  have e := nP_cnt hI v
  rw [e.2, nI_toInt (by omega)] at h
  omega
theorem bP_ex {σ : Sg} (hI : INV σ) {v : Int32} {i : Nat} (hi : i < nP σ v) : ∃ j, j < nL σ ∧ σ 20 j = v ∧ cntN σ v j = i ∧ bP σ v i = nI j := by
  have hb := hI.l.1
  rw [(nP_cnt hI v).1] at hi
  obtain ⟨j, -, a2, a3, a4, a5⟩ := lotAt_ex (σ := σ) (v := v) (k := i) (nL σ) 0 (by omega) (Nat.zero_le _) (by rw [Nat.zero_add]; exact hi)
  exact ⟨j, by omega, a3, a4, a5⟩
theorem bP_in {σ : Sg} (hI : INV σ) {v : Int32} {i : Nat} (hi : i < nP σ v) : vp_in (bP σ v i) (nL σ) := by
  have hb := hI.l.1
  obtain ⟨j, h1, -, -, e⟩ := bP_ex hI hi
  rw [e]
  exact vin_nI h1 (by omega)
theorem bP_mono {σ : Sg} (hI : INV σ) {v : Int32} : ∀ i j, i < nP σ v → j < nP σ v → lsI (bP σ v i) (bP σ v j) = lsN i j := fun i j hi hj => by
  have hb := hI.l.1
  obtain ⟨a, a1, a2, a3, a4⟩ := bP_ex hI hi
  obtain ⟨b, b1, b2, b3, b4⟩ := bP_ex hI hj
  unfold lsI lsN
  rw [a4, b4]
  refine decide_eq_decide.mpr ?_
  rw [nI_ltI (by omega) (by omega)]
  refine ⟨fun q => ?_, fun q => ?_⟩
  · have := cntN_lt a2 q
    omega
  · rcases Nat.lt_or_ge a b with c | c
    · exact c
    · have := cntN_mono σ v c
      omega
theorem f_hours_n {σ : Sg} (hI : INV σ) {l : Int32} (hl : vp_in l (nL σ)) : ∃ k, k ≤ 8 ∧ f_hours σ l = nI k := by
  obtain ⟨h1, h2⟩ := hI.2.2.2.1 _ (vin_lt hl)
  obtain ⟨j, hj, e⟩ := vp_in_of (x := σ 15 (ti l)) (n := 201) (vp_in_iff.mpr ⟨by omega, by omega⟩) (by decide)
  refine ⟨4 + (j + 49) / 50, by omega, ?_⟩
  unfold f_hours
  rw [e, show (49 : Int32) = nI 49 from rfl, show (50 : Int32) = nI 50 from rfl, show (4 : Int32) = nI 4 from rfl, nI_add, pk_div (by omega) (by decide) (by decide), nI_add]
theorem hrP_eq {σ : Sg} (hI : INV σ) {v : Int32} {i : Nat} (hi : i < nP σ v) : f_hours σ (bP σ v i) = nI (hrP σ v i) ∧ hrP σ v i ≤ 8 := by
  obtain ⟨k, h1, h2⟩ := f_hours_n hI (bP_in hI hi)
  unfold hrP
  rw [h2, ti_nI (by omega), Nat.min_eq_left (by omega)]
  exact ⟨rfl, h1⟩
theorem hrP_le (σ : Sg) (v : Int32) (i : Nat) : hrP σ v i ≤ 100 := Nat.min_le_right _ _
abbrev okP (σ : Sg) (v : Int32) (p : List Nat) : Prop := p.length = nP σ v ∧ ∀ i, i ∈ p → i < nP σ v
theorem rowP_rel {σ : Sg} {v : Int32} {p : List Nat} (h : okP σ v p) : RelP (nP σ v) (bP σ v) (σ 27) (rowP σ v p) (pF p) := ⟨pF_lt h.1 h.2, fun _ => rfl⟩
theorem P_pv {σ : Sg} (hI : INV σ) {v : Int32} {p : List Nat} (h : okP σ v p) : pvG lsI (rowP σ v p) (nP σ v - 1) = pvG lsN (pF p) (nP σ v - 1) := by
  by_cases h0 : nP σ v = 0
  · rw [h0]; rfl
  · exact (rowP_rel h).pv (bP_mono hI) _ (by omega)
theorem okP_of {σ : Sg} {v : Int32} {p : List Nat} {B : List (List Nat)} (h : chkO (nP σ v) (p :: B) = true) : okP σ v p := ⟨(chkO_hd h).1, (chkO_hd h).2.1⟩
theorem P_end {σ : Sg} (hI : INV σ) {v : Int32} {p : List Nat} {B : List (List Nat)} (h : chkO (nP σ v) (p :: B) = true) (c : pvG lsI (rowP σ v p) (nP σ v - 1) = 0) : B = [] := by
  rw [P_pv hI (okP_of h)] at c
  cases B with
  | nil => rfl
  | cons q L => exact absurd c (chkO_nx h).1
theorem P_more {σ : Sg} (hI : INV σ) {v : Int32} {p : List Nat} {B : List (List Nat)} (h : chkO (nP σ v) (p :: B) = true) (c : ¬ pvG lsI (rowP σ v p) (nP σ v - 1) = 0) : ∃ q L, B = q :: L := by
  rw [P_pv hI (okP_of h)] at c
  cases B with
  | nil => exact absurd (chkO_end h) c
  | cons q L => exact ⟨q, L, rfl⟩
theorem P_next {σ : Sg} (hI : INV σ) {v : Int32} {p q : List Nat} {L : List (List Nat)} {t : Int32} (h : chkO (nP σ v) (p :: q :: L) = true) (c : ¬ pvG lsI (rowP σ v p) (nP σ v - 1) = 0) : F_isNext (up (rw27 σ (rowP σ v p)) 28 0 t) (nP σ v) = up (rw27 σ (rowP σ v q)) 28 0 t := by
  have h1 := chkO_nx h
  have h2 := (rowP_rel (okP_of h)).nx (bP_mono hI) h1.1
  have e : (up (rw27 σ (rowP σ v p)) 28 0 t) 27 = rowP σ v p := rfl
  have e2 : F_isNext (up (rw27 σ (rowP σ v p)) 28 0 t) (nP σ v) = rw27 (up (rw27 σ (rowP σ v p)) 28 0 t) (nxG lsI (rowP σ v p) (nP σ v)) := if_neg c
  rw [e2, rw_up28, rw27_2]
  refine congrArg (fun z => up (rw27 σ z) 28 0 t) (funext fun i => ?_)
  rw [h2.2 i]
  unfold rowP
  by_cases hi : i < nP σ v
  · rw [if_pos hi, if_pos hi, h1.2.1 i hi]
  · rw [if_neg hi, if_neg hi]
theorem F_isNext_no {σ : Sg} {N : Nat} (c : pvG lsI (σ 27) (N - 1) = 0) : F_isNext σ N = σ := if_pos c
/-! the hours of the order in the row -/
def runC (lt cu : Nat → Int32) (hr : Nat → Nat) : (Nat × Int32 × Int32) → List Nat → (Nat × Int32 × Int32)
  | s, [] => s
  | s, i :: p => runC lt cu hr (if ndC lt cu s.2.1 s.2.2 i then (s.1 + 3 + hr i, lt i, -1) else (s.1 + hr i, lt i, s.2.2)) p
theorem runC_app (lt cu : Nat → Int32) (hr : Nat → Nat) (i : Nat) : ∀ (A : List Nat) (s : Nat × Int32 × Int32), runC lt cu hr s (A ++ [i]) = (if ndC lt cu (runC lt cu hr s A).2.1 (runC lt cu hr s A).2.2 i then ((runC lt cu hr s A).1 + 3 + hr i, lt i, -1) else ((runC lt cu hr s A).1 + hr i, lt i, (runC lt cu hr s A).2.2))
  | [], s => rfl
  | j :: A, s => by
    show runC lt cu hr _ (A ++ [i]) = _
    rw [runC_app lt cu hr i A]
    rfl
theorem runC_cl (lt cu : Nat → Int32) (hr : Nat → Nat) : ∀ (p : List Nat) (s : Nat × Int32 × Int32), (runC lt cu hr s p).1 = s.1 + costP lt cu hr s.2.1 s.2.2 p
  | [], s => rfl
  | i :: p, s => by
    unfold runC
    rw [runC_cl lt cu hr p]
    by_cases c : ndC lt cu s.2.1 s.2.2 i
    · rw [if_pos c]
      simp only [costP, hsm, List.map_cons, List.sum_cons, clC, if_pos c]
      omega
    · rw [if_neg c]
      simp only [costP, hsm, List.map_cons, List.sum_cons, clC, if_neg c]
      omega
theorem lsF_run {σ σ' : Sg} (hI : INV σ) {v : Int32} {p : List Nat} (hp : okP σ v p) (h27 : ∀ i, i < nP σ v → σ' 27 i = bP σ v (pF p i)) (hl : ∀ x, f_lightOf σ' x = f_lightOf σ x) (hc : ∀ x, f_cust σ' x = f_cust σ x) (hh : ∀ x, f_hours σ' x = f_hours σ x) (h23 : σ' 23 (ti v) = σ 23 (ti v)) (h24 : σ' 24 (ti v) = σ 24 (ti v)) : ∀ k, k ≤ nP σ v → lsF σ' v k = (nI (runC (ltP σ v) (cuP σ v) (hrP σ v) (0, σ 23 (ti v), σ 24 (ti v)) (p.take k)).1, (runC (ltP σ v) (cuP σ v) (hrP σ v) (0, σ 23 (ti v), σ 24 (ti v)) (p.take k)).2.1, (runC (ltP σ v) (cuP σ v) (hrP σ v) (0, σ 23 (ti v), σ 24 (ti v)) (p.take k)).2.2)
  | 0, _ => by
    show ((0 : Int32), σ' 23 (ti v), σ' 24 (ti v)) = _
    rw [h23, h24]
    rfl
  | k + 1, hk => by
    have ih := lsF_run hI hp h27 hl hc hh h23 h24 k (by omega)
    have hk1 : k < p.length := by have := hp.1; omega
    have e : p.take (k + 1) = p.take k ++ [pF p k] := by
      rw [List.take_succ_eq_append_getElem hk1]
      unfold pF
      rw [List.getD_eq_getElem?_getD, List.getElem?_eq_getElem hk1]
      rfl
    have hb : pF p k < nP σ v := pF_lt hp.1 hp.2 k (by omega)
    rw [e, runC_app]
    generalize hR : runC (ltP σ v) (cuP σ v) (hrP σ v) (0, σ 23 (ti v), σ 24 (ti v)) (p.take k) = R at ih ⊢
    have hx : f_hours σ' (σ' 27 k) = nI (hrP σ v (pF p k)) := by rw [hh, h27 k (by omega), (hrP_eq hI hb).1]
    have hy : f_lightOf σ' (σ' 27 k) = ltP σ v (pF p k) := by rw [hl, h27 k (by omega)]; rfl
    have hz : f_cust σ' (σ' 27 k) = cuP σ v (pF p k) := by rw [hc, h27 k (by omega)]; rfl
    by_cases c : ndC (ltP σ v) (cuP σ v) R.2.1 R.2.2 (pF p k)
    · rw [if_pos c, lsF_c (by rw [ih, hy, hz]; exact c), ih, hx, hy]
      refine congrArg (fun z => (z, _, _)) ?_
      rw [show (3 : Int32) = nI 3 from rfl, nI_add, nI_add]
    · rw [if_neg c, lsF_n (by rw [ih, hy, hz]; exact c), ih, hx, hy]
      refine congrArg (fun z => (z, _, _)) ?_
      rw [nI_add]
theorem cst_lasts {σ σ' : Sg} (hI : INV σ) {v : Int32} {p : List Nat} (hp : okP σ v p) (h27 : ∀ i, i < nP σ v → σ' 27 i = bP σ v (pF p i)) (hl : ∀ x, f_lightOf σ' x = f_lightOf σ x) (hc : ∀ x, f_cust σ' x = f_cust σ x) (hh : ∀ x, f_hours σ' x = f_hours σ x) (h23 : σ' 23 (ti v) = σ 23 (ti v)) (h24 : σ' 24 (ti v) = σ 24 (ti v)) : (lsF σ' v (nP σ v)).1 = nI (cstP σ v p) := by
  rw [lsF_run hI hp h27 hl hc hh h23 h24 _ (Nat.le_refl _)]
  show nI _ = _
  rw [show p.take (nP σ v) = p from List.take_of_length_le (by rw [hp.1]; exact Nat.le_refl _), runC_cl]
  show nI (0 + _) = _
  rw [Nat.zero_add]
  rfl
theorem P_lasts {σ : Sg} (hI : INV σ) {v : Int32} {p : List Nat} (hp : okP σ v p) (t : Int32) : (lsF (up (rw27 σ (rowP σ v p)) 28 0 t) v (nP σ v)).1 = nI (cstP σ v p) := cst_lasts hI hp (fun i hi => if_pos hi) (fun _ => rfl) (fun _ => rfl) (fun _ => rfl) rfl rfl
theorem P_lasts0 {σ : Sg} (hI : INV σ) {v : Int32} {p : List Nat} (hp : okP σ v p) : (lsF (rw27 σ (rowP σ v p)) v (nP σ v)).1 = nI (cstP σ v p) := cst_lasts hI hp (fun i hi => if_pos hi) (fun _ => rfl) (fun _ => rfl) (fun _ => rfl) rfl rfl
theorem P_hr {σ : Sg} (hI : INV σ) {v : Int32} {p : List Nat} (hp : okP σ v p) : ∀ j, j < nP σ v → vp_in (rowP σ v p j) (nL σ) := fun j hj => by
  unfold rowP
  rw [if_pos hj]
  exact bP_in hI (pF_lt hp.1 hp.2 j hj)
theorem cstP_le {σ : Sg} (hI : INV σ) {v : Int32} (kv : vp_in v (nV σ)) {p : List Nat} (hp : okP σ v p) : cstP σ v p ≤ 100 := by
  have h6 := nP_le hI kv
  have hs : ∀ q : List Nat, (∀ i, i ∈ q → i < nP σ v) → hsm (hrP σ v) q ≤ 8 * q.length := by
    intro q
    induction q with
    | nil => intro _; exact Nat.le_refl _
    | cons i q ih =>
      intro hq
      have h1 := (hrP_eq hI (hq i List.mem_cons_self)).2
      have h2 := ih (fun j hj => hq j (List.mem_cons_of_mem _ hj))
      simp only [hsm, List.map_cons, List.sum_cons, List.length_cons] at h2 ⊢
      omega
  have h1 := hs p hp.2
  have h2 := clC_le (ltP σ v) (cuP σ v) p (σ 23 (ti v)) (σ 24 (ti v))
  have h3 := hp.1
  unfold cstP costP
  omega
theorem rowK_0 (σ : Sg) (v : Int32) : rw27 σ (rowK σ v 0) = σ := by
  have e : rowK σ v 0 = σ 27 := funext fun i => if_neg (Nat.not_lt_zero _)
  rw [e, rw27_id]
theorem lotAtF_rw (σ : Sg) (r : Nat → Int32) (v p : Int32) : ∀ n i, lotAtF (rw27 σ r) v p n i = lotAtF σ v p n i
  | 0, _ => rfl
  | n + 1, i => by simp only [lotAtF, lotAtF_rw σ r v p n]; rfl
theorem rowK_s (σ : Sg) (v : Int32) {k : Nat} (hk : k < 1000) : up (rw27 σ (rowK σ v k)) 27 (ti (nI k)) (f_lotAt (rw27 σ (rowK σ v k)) v (nI k)) = rw27 σ (rowK σ v (k + 1)) := by
  have e : f_lotAt (rw27 σ (rowK σ v k)) v (nI k) = bP σ v k := lotAtF_rw σ _ v _ _ _
  rw [e, up27_rw, ti_nI (by omega)]
  refine congrArg (rw27 σ) (funext fun i => ?_)
  by_cases c : i = k
  · subst c; simp [upd, rowK]
  · by_cases c2 : i < k
    · simp [upd, rowK, c, c2, show i < k + 1 by omega]
    · simp [upd, rowK, c, c2, show ¬ i < k + 1 by omega]
theorem rowK_N (σ : Sg) (v : Int32) : rowK σ v (nP σ v) = rowP σ v (List.range (nP σ v)) := funext fun i => by
  unfold rowK rowP
  by_cases c : i < nP σ v
  · rw [if_pos c, if_pos c]
    unfold pF
    rw [List.getD_eq_getElem?_getD, List.getElem?_range c]
    rfl
  · rw [if_neg c, if_neg c]
theorem bs_lt {cost : List Nat → Nat} {q : List Nat} {L : List (List Nat)} {m x : Nat} {r : Nat × Nat} (h : (q :: L).foldl (bsP cost) (m, x) = r) (c : cost q < m) : L.foldl (bsP cost) (cost q, pF q 0) = r := by
  rw [← h]
  simp [bsP, c]
theorem bs_ge {cost : List Nat → Nat} {q : List Nat} {L : List (List Nat)} {m x : Nat} {r : Nat × Nat} (h : (q :: L).foldl (bsP cost) (m, x) = r) (c : ¬ cost q < m) : L.foldl (bsP cost) (m, x) = r := by
  rw [← h]
  simp [bsP, c]
def F_lh (σ : Sg) (v : Int32) : Sg := if okV σ v then F_least (up σ 0 0 0) v else up σ 0 0 1
def t_firstOf (σ : Sg) (v : Int32) : Int32 := if okV σ v then (if f_inPlan σ v = 0 then 2 else 0) else 1
def F_firstOf (σ : Sg) (v : Int32) : Sg := if t_firstOf σ v = 0 then F_least (up σ 0 0 0) v else up σ 0 0 (t_firstOf σ v)
