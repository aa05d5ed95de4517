/-! ===== shares and means: no NaN ===== -/
theorem sumF_01 {f : Nat → Int32} (hf : ∀ j, f j = 0 ∨ f j = 1) : ∀ n, ∃ m, m ≤ n ∧ sumF f n = nI m
  | 0 => ⟨0, Nat.le_refl _, rfl⟩
  | n + 1 => by
    obtain ⟨m, h1, h2⟩ := sumF_01 hf n
    rcases hf n with h | h
    · exact ⟨m, by omega, by rw [sumF, h, h2, Int32.add_zero]⟩
    · exact ⟨m + 1, by omega, by rw [sumF, h, h2, nI_1]⟩
def c_st (σ : Sg) (z : Int32) : Nat → Int32 := sumF (fun j => if σ 21 j = z then 1 else 0)
theorem c_st_n (σ : Sg) (z : Int32) (n : Nat) : ∃ m, m ≤ n ∧ c_st σ z n = nI m := sumF_01 (fun j => by by_cases h : σ 21 j = z <;> simp [h]) n
def t_share (σ : Sg) : Int32 := if c_st σ 112 (nL σ) + c_st σ 120 (nL σ) = 0 then 1 else 0
def f_share (σ : Sg) : UInt32 := FP.fdiv (FP.i2f (c_st σ 112 (nL σ))) (FP.i2f (c_st σ 112 (nL σ) + c_st σ 120 (nL σ)))
set_option maxRecDepth 100000 in
theorem fp_f : ∀ a, a < 25 → ∀ b, b < 48 → decide (FP.fdiv (FP.i2f (nI a)) (FP.i2f (nI (b + 1))) &&& 0x7fffffff ≤ 0x7f800000) = true := by decide +kernel
set_option maxRecDepth 100000 in
theorem fp_fd : ∀ a, a < 25 → ∀ b, b < 48 → decide (FP.f2d (FP.fdiv (FP.i2f (nI a)) (FP.i2f (nI (b + 1)))) &&& 0x7fffffffffffffff ≤ 0x7ff0000000000000) = true := by decide +kernel
theorem share_ab {σ : Sg} (hI : INV σ) (h : ¬ c_st σ 112 (nL σ) + c_st σ 120 (nL σ) = 0) : ∃ a b, a < 25 ∧ b < 48 ∧ c_st σ 112 (nL σ) = nI a ∧ c_st σ 112 (nL σ) + c_st σ 120 (nL σ) = nI (b + 1) := by
  have hb := hI.l.1
  obtain ⟨a, h1, h2⟩ := c_st_n σ 112 (nL σ)
  obtain ⟨b, h3, h4⟩ := c_st_n σ 120 (nL σ)
  rw [h2, h4, nI_add] at h ⊢
  have h0 : a + b ≠ 0 := fun e => h (by rw [e]; rfl)
  exact ⟨a, a + b - 1, by omega, by omega, rfl, by rw [show a + b - 1 + 1 = a + b by omega]⟩
theorem share_n {σ : Sg} (hI : INV σ) (h : ¬ c_st σ 112 (nL σ) + c_st σ 120 (nL σ) = 0) : vf_n32 (FP.fdiv (FP.i2f (c_st σ 112 (nL σ))) (FP.i2f (c_st σ 112 (nL σ) + c_st σ 120 (nL σ)))) := by
  obtain ⟨a, b, h1, h2, h3, h4⟩ := share_ab hI h
  rw [h4, h3]
  unfold vf_n32
  exact of_decide_eq_true (fp_f a h1 b h2)
theorem share_d {σ : Sg} (hI : INV σ) (h : ¬ c_st σ 112 (nL σ) + c_st σ 120 (nL σ) = 0) : vf_n64 (FP.f2d (FP.fdiv (FP.i2f (c_st σ 112 (nL σ))) (FP.i2f (c_st σ 112 (nL σ) + c_st σ 120 (nL σ))))) := by
  obtain ⟨a, b, h1, h2, h3, h4⟩ := share_ab hI h
  rw [h4, h3]
  unfold vf_n64
  exact of_decide_eq_true (fp_fd a h1 b h2)
def s_off (σ : Sg) : Nat → Int32 := sumF (fun j => if σ 21 j = 119 then 0 else f_off σ (nI j))
def c_nw (σ : Sg) : Nat → Int32 := sumF (fun j => if σ 21 j = 119 then 0 else 1)
def t_mean (σ : Sg) : Int32 := if c_nw σ (nL σ) = 0 then 1 else 0
def f_mean (σ : Sg) : UInt64 := FP.ddiv (FP.i2d (s_off σ (nL σ))) (FP.i2d (c_nw σ (nL σ)))
theorem gap_n {a b : Int32} (ha : vp_in a 21) (hb : vp_in b 21) : ∃ k, k ≤ 20 ∧ f_gap a b = nI k := by
  obtain ⟨i, hi, rfl⟩ := vp_in_of ha (by decide)
  obtain ⟨j, hj, rfl⟩ := vp_in_of hb (by decide)
  unfold f_gap
  by_cases c : nI i < nI j
  · rw [if_pos c, pk_sub (by rw [nI_ltI (by omega) (by omega)] at c; omega)]
    exact ⟨j - i, by omega, rfl⟩
  · rw [if_neg c, pk_sub (by rw [nI_ltI (by omega) (by omega)] at c; omega)]
    exact ⟨i - j, by omega, rfl⟩
theorem off_n {σ : Sg} (hI : INV σ) (l : Int32) : ∃ k, k ≤ 60 ∧ f_off σ l = nI k := by
  have h5 := hI.2.2.2.2.2.2.2.2.2.1
  have h16 := hI.2.2.2.2.2.2.2.2.2.2.1
  unfold f_off
  obtain ⟨a, ha, ea⟩ := gap_n (h16 (ti (3 * l))) (h5 (ti (3 * f_rec σ l)))
  obtain ⟨b, hb, eb⟩ := gap_n (h16 (ti (3 * l + 1))) (h5 (ti (3 * f_rec σ l + 1)))
  obtain ⟨d, hd, ed⟩ := gap_n (h16 (ti (3 * l + 2))) (h5 (ti (3 * f_rec σ l + 2)))
  rw [ea, eb, ed, nI_add, nI_add]
  exact ⟨a + b + d, by omega, rfl⟩
theorem s_off_n {σ : Sg} (hI : INV σ) : ∀ n, ∃ m, m ≤ 60 * n ∧ s_off σ n = nI m
  | 0 => ⟨0, Nat.le_refl _, rfl⟩
  | n + 1 => by
    obtain ⟨m, h1, h2⟩ := s_off_n hI n
    unfold s_off at h2 ⊢
    by_cases h : σ 21 n = 119
    · exact ⟨m, by omega, by rw [sumF, h2, if_pos h, Int32.add_zero]⟩
    · obtain ⟨k, hk, ek⟩ := off_n hI (nI n)
      exact ⟨m + k, by omega, by rw [sumF, h2, if_neg h, ek, nI_add]⟩
theorem c_nw_n (σ : Sg) (n : Nat) : ∃ m, m ≤ n ∧ c_nw σ n = nI m := sumF_01 (fun j => by by_cases h : σ 21 j = 119 <;> simp [h]) n
set_option maxRecDepth 100000 in
theorem fp_d0 : ∀ a, a < 121 → ∀ b, b < 24 → decide (FP.ddiv (FP.i2d (nI (a + 0))) (FP.i2d (nI (b + 1))) &&& 0x7fffffffffffffff ≤ 0x7ff0000000000000) = true := by decide +kernel
set_option maxRecDepth 100000 in
theorem fp_d1 : ∀ a, a < 121 → ∀ b, b < 24 → decide (FP.ddiv (FP.i2d (nI (a + 120))) (FP.i2d (nI (b + 1))) &&& 0x7fffffffffffffff ≤ 0x7ff0000000000000) = true := by decide +kernel
set_option maxRecDepth 100000 in
theorem fp_d2 : ∀ a, a < 121 → ∀ b, b < 24 → decide (FP.ddiv (FP.i2d (nI (a + 240))) (FP.i2d (nI (b + 1))) &&& 0x7fffffffffffffff ≤ 0x7ff0000000000000) = true := by decide +kernel
set_option maxRecDepth 100000 in
theorem fp_d3 : ∀ a, a < 121 → ∀ b, b < 24 → decide (FP.ddiv (FP.i2d (nI (a + 360))) (FP.i2d (nI (b + 1))) &&& 0x7fffffffffffffff ≤ 0x7ff0000000000000) = true := by decide +kernel
set_option maxRecDepth 100000 in
theorem fp_d4 : ∀ a, a < 121 → ∀ b, b < 24 → decide (FP.ddiv (FP.i2d (nI (a + 480))) (FP.i2d (nI (b + 1))) &&& 0x7fffffffffffffff ≤ 0x7ff0000000000000) = true := by decide +kernel
set_option maxRecDepth 100000 in
theorem fp_d5 : ∀ a, a < 121 → ∀ b, b < 24 → decide (FP.ddiv (FP.i2d (nI (a + 600))) (FP.i2d (nI (b + 1))) &&& 0x7fffffffffffffff ≤ 0x7ff0000000000000) = true := by decide +kernel
set_option maxRecDepth 100000 in
theorem fp_d6 : ∀ a, a < 121 → ∀ b, b < 24 → decide (FP.ddiv (FP.i2d (nI (a + 720))) (FP.i2d (nI (b + 1))) &&& 0x7fffffffffffffff ≤ 0x7ff0000000000000) = true := by decide +kernel
set_option maxRecDepth 100000 in
theorem fp_d7 : ∀ a, a < 121 → ∀ b, b < 24 → decide (FP.ddiv (FP.i2d (nI (a + 840))) (FP.i2d (nI (b + 1))) &&& 0x7fffffffffffffff ≤ 0x7ff0000000000000) = true := by decide +kernel
set_option maxRecDepth 100000 in
theorem fp_d8 : ∀ a, a < 121 → ∀ b, b < 24 → decide (FP.ddiv (FP.i2d (nI (a + 960))) (FP.i2d (nI (b + 1))) &&& 0x7fffffffffffffff ≤ 0x7ff0000000000000) = true := by decide +kernel
set_option maxRecDepth 100000 in
theorem fp_d9 : ∀ a, a < 121 → ∀ b, b < 24 → decide (FP.ddiv (FP.i2d (nI (a + 1080))) (FP.i2d (nI (b + 1))) &&& 0x7fffffffffffffff ≤ 0x7ff0000000000000) = true := by decide +kernel
set_option maxRecDepth 100000 in
theorem fp_d10 : ∀ a, a < 121 → ∀ b, b < 24 → decide (FP.ddiv (FP.i2d (nI (a + 1200))) (FP.i2d (nI (b + 1))) &&& 0x7fffffffffffffff ≤ 0x7ff0000000000000) = true := by decide +kernel
set_option maxRecDepth 100000 in
theorem fp_d11 : ∀ a, a < 121 → ∀ b, b < 24 → decide (FP.ddiv (FP.i2d (nI (a + 1320))) (FP.i2d (nI (b + 1))) &&& 0x7fffffffffffffff ≤ 0x7ff0000000000000) = true := by decide +kernel
theorem fp_d (a b : Nat) (ha : a ≤ 1440) (hb : b < 24) : vf_n64 (FP.ddiv (FP.i2d (nI a)) (FP.i2d (nI (b + 1)))) := by
  rcases Nat.lt_or_ge a 121 with h0 | h0
  · have := fp_d0 (a - 0) (by omega) b hb
    rw [show a - 0 + 0 = a by omega] at this
    unfold vf_n64
    exact of_decide_eq_true this
  rcases Nat.lt_or_ge a 241 with h1 | h1
  · have := fp_d1 (a - 120) (by omega) b hb
    rw [show a - 120 + 120 = a by omega] at this
    unfold vf_n64
    exact of_decide_eq_true this
  rcases Nat.lt_or_ge a 361 with h2 | h2
  · have := fp_d2 (a - 240) (by omega) b hb
    rw [show a - 240 + 240 = a by omega] at this
    unfold vf_n64
    exact of_decide_eq_true this
  rcases Nat.lt_or_ge a 481 with h3 | h3
  · have := fp_d3 (a - 360) (by omega) b hb
    rw [show a - 360 + 360 = a by omega] at this
    unfold vf_n64
    exact of_decide_eq_true this
  rcases Nat.lt_or_ge a 601 with h4 | h4
  · have := fp_d4 (a - 480) (by omega) b hb
    rw [show a - 480 + 480 = a by omega] at this
    unfold vf_n64
    exact of_decide_eq_true this
  rcases Nat.lt_or_ge a 721 with h5 | h5
  · have := fp_d5 (a - 600) (by omega) b hb
    rw [show a - 600 + 600 = a by omega] at this
    unfold vf_n64
    exact of_decide_eq_true this
  rcases Nat.lt_or_ge a 841 with h6 | h6
  · have := fp_d6 (a - 720) (by omega) b hb
    rw [show a - 720 + 720 = a by omega] at this
    unfold vf_n64
    exact of_decide_eq_true this
  rcases Nat.lt_or_ge a 961 with h7 | h7
  · have := fp_d7 (a - 840) (by omega) b hb
    rw [show a - 840 + 840 = a by omega] at this
    unfold vf_n64
    exact of_decide_eq_true this
  rcases Nat.lt_or_ge a 1081 with h8 | h8
  · have := fp_d8 (a - 960) (by omega) b hb
    rw [show a - 960 + 960 = a by omega] at this
    unfold vf_n64
    exact of_decide_eq_true this
  rcases Nat.lt_or_ge a 1201 with h9 | h9
  · have := fp_d9 (a - 1080) (by omega) b hb
    rw [show a - 1080 + 1080 = a by omega] at this
    unfold vf_n64
    exact of_decide_eq_true this
  rcases Nat.lt_or_ge a 1321 with h10 | h10
  · have := fp_d10 (a - 1200) (by omega) b hb
    rw [show a - 1200 + 1200 = a by omega] at this
    unfold vf_n64
    exact of_decide_eq_true this
  rcases Nat.lt_or_ge a 1441 with h11 | h11
  · have := fp_d11 (a - 1320) (by omega) b hb
    rw [show a - 1320 + 1320 = a by omega] at this
    unfold vf_n64
    exact of_decide_eq_true this
  omega
theorem mean_n {σ : Sg} (hI : INV σ) (h : ¬ c_nw σ (nL σ) = 0) : vf_n64 (FP.ddiv (FP.i2d (s_off σ (nL σ))) (FP.i2d (c_nw σ (nL σ)))) := by
  have hb := hI.l.1
  obtain ⟨a, h1, h2⟩ := s_off_n hI (nL σ)
  obtain ⟨b, h3, h4⟩ := c_nw_n σ (nL σ)
  rw [h4] at h
  rw [h2, h4]
  have h0 : b ≠ 0 := fun e => h (by rw [e]; rfl)
  obtain ⟨b', rfl⟩ : ∃ b', b = b' + 1 := ⟨b - 1, by omega⟩
  exact fp_d a b' (by omega) (by omega)
