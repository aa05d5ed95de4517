/-! ===== the law's world: the class, the reference, two cells for answers ===== -/
def SMR (σ σ' : Sg) : Prop := ∀ k j, k ≠ 0 → k ≠ 27 → k ≠ 28 → σ' k j = σ k j
theorem SMR.rows {σ σ' : Sg} (h : SMR σ σ') : ∀ k, 1 ≤ k → k ≤ 26 → σ' k = σ k := fun k h1 h2 => funext fun j => h k j (by omega) (by omega) (by omega)
theorem SMR.cnt {σ σ' : Sg} (h : SMR σ σ') : xcnt σ' = xcnt σ := by
  have e := h.rows
  funext K
  unfold xcnt
  rw [show nR σ' = nR σ from congrArg (fun f => ti (f 0)) (e 1 (by decide) (by decide)), show nO σ' = nO σ from congrArg (fun f => ti (f 0)) (e 2 (by decide) (by decide)), show nL σ' = nL σ from congrArg (fun f => ti (f 0)) (e 3 (by decide) (by decide)), show nV σ' = nV σ from congrArg (fun f => ti (f 0)) (e 4 (by decide) (by decide))]
theorem SMR.cont {σ σ' τ : Sg} (h : SMR σ σ') (cy : Nat → ClassId) (ad : Nat → Nat → Nat) (u : Nat → Int64) (K i : Nat) : xcont cy ad σ' u τ K i = xcont cy ad σ u τ K i := by
  have e := h.rows
  unfold xcont
  rw [show nR σ' = nR σ from congrArg (fun f => ti (f 0)) (e 1 (by decide) (by decide)), show nO σ' = nO σ from congrArg (fun f => ti (f 0)) (e 2 (by decide) (by decide)), show nL σ' = nL σ from congrArg (fun f => ti (f 0)) (e 3 (by decide) (by decide)), show nV σ' = nV σ from congrArg (fun f => ti (f 0)) (e 4 (by decide) (by decide))]
  rw [e 1 (by decide) (by decide), e 2 (by decide) (by decide), e 3 (by decide) (by decide), e 4 (by decide) (by decide), e 5 (by decide) (by decide), e 6 (by decide) (by decide), e 7 (by decide) (by decide), e 9 (by decide) (by decide), e 10 (by decide) (by decide), e 11 (by decide) (by decide), e 12 (by decide) (by decide), e 13 (by decide) (by decide), e 14 (by decide) (by decide), e 15 (by decide) (by decide), e 16 (by decide) (by decide), e 17 (by decide) (by decide), e 18 (by decide) (by decide), e 19 (by decide) (by decide), e 20 (by decide) (by decide), e 21 (by decide) (by decide), e 22 (by decide) (by decide), e 23 (by decide) (by decide), e 24 (by decide) (by decide), e 25 (by decide) (by decide), e 26 (by decide) (by decide)]
theorem XR.smr {g : EG} {ad : Nat → Nat → Nat} {σ σ' τ : Sg} {u : Nat → Int64} {H : Heap} (h : SMR σ σ') (hX : XR g ad σ u τ H) : XR g ad σ' u τ H := fun K i hi => by
  rw [h.cont]
  exact hX K i (by rw [h.cnt] at hi; exact hi)
theorem SMR.u0 (σ : Sg) (x : Int32) : SMR σ (up σ 0 0 x) := fun k j h _ _ => up_off σ x (fun q => h q.1)
def DIS (ad : Nat → Nat → Nat) (σ : Sg) (ma : Nat → Nat) (lo ou od : Nat) : Prop := (∀ K i, i < xcnt σ K → ∀ k, mk9 k → ad K i ≠ ma k) ∧ (∀ K i, i < xcnt σ K → ad K i ≠ ou ∧ ad K i ≠ od) ∧ (∀ k, mk9 k → ma k ≠ ou ∧ ma k ≠ od) ∧ ou ≠ od ∧ lo ≤ ou ∧ lo ≤ od
def LJ (g : EG) (lo : Nat) (ad : Nat → Nat → Nat) (ma : Nat → Nat) (ou od : Nat) (σc : Sg) (uc : Nat → Int64) (τ σ : Sg) (u : Nat → Int64) (H0 H : Heap) (locs : List Loc) : Prop :=
  (XR g ad σc uc τ H ∧ XA lo ad σc) ∧ (MR g ma σ u H ∧ MA lo ma) ∧ (OUTL g ou H ∧ OUTD g od H) ∧ DIS ad σc ma lo ou od ∧ va_S (fun q => lo ≤ q) H0 H locs
section LJS
variable {g : EG} {lo : Nat} {ad ad' : Nat → Nat → Nat} {ma : Nat → Nat} {ou od : Nat} {σc σc' : Sg} {uc uc' : Nat → Int64} {τ τ' σ σ' : Sg} {u u' : Nat → Int64} {H0 H H1 Hm : Heap} {locs L : List Loc}
theorem MR.kept9 (h : MR g ma σ u H) (hk : ∀ k, mk9 k → ma k < H.size → H1[ma k]? = H[ma k]?) : MR g ma σ u H1 := by
  obtain ⟨h1, h2, h3, h4⟩ := h
  exact ⟨h1.kept (hk 0 (Or.inl rfl) h1.lt), fun k hm => (h2 k hm).kept (hk k (mk9_of hm) (h2 k hm).lt), h3.kept (hk 21 (Or.inr (by omega)) h3.lt), h4.kept (hk 8 (Or.inr (by omega)) h4.lt)⟩
theorem MR.lt9 (h : MR g ma σ u H) {k : Nat} (hk : mk9 k) : ma k < H.size := by
  obtain ⟨h1, h2, h3, h4⟩ := h
  rcases hk with rfl | hk
  · exact h1.lt
  · by_cases e8 : k = 8
    · subst e8; exact h4.lt
    · by_cases e21 : k = 21
      · subst e21; exact h3.lt
      · exact (h2 k ⟨⟨hk.2, hk.1⟩, e8, e21⟩).lt
theorem LJ.smr (hs : SMR σc σc') (h : LJ g lo ad ma ou od σc uc τ σ u H0 H locs) : LJ g lo ad ma ou od σc' uc τ σ u H0 H locs := by
  obtain ⟨⟨a1, a2, a3⟩, b, c, ⟨d1, d2, d3⟩, e⟩ := h
  have hc := hs.cnt
  exact ⟨⟨a1.smr hs, fun K i K' i' h1 h2 => a2 K i K' i' (by rw [hc] at h1; exact h1) (by rw [hc] at h2; exact h2), fun K i h1 => a3 K i (by rw [hc] at h1; exact h1)⟩, b, c, ⟨fun K i h1 => d1 K i (by rw [hc] at h1; exact h1), fun K i h1 => d2 K i (by rw [hc] at h1; exact h1), d3⟩, e⟩
/-- the class has gone on, with its cells alone and new ones -/
theorem LJ.mid (h : LJ g lo ad ma ou od σc uc τ σ u H0 H locs) (hz : H.size ≤ Hm.size) (hk : ∀ q, q < H.size → ¬ xown ad σc q → Hm[q]? = H[q]?) (hX : XR g ad' σc' uc' τ' Hm) (hA : XA lo ad' σc') (hd : ∀ K i, i < xcnt σc' K → (i < xcnt σc K ∧ ad' K i = ad K i) ∨ H.size ≤ ad' K i) : LJ g lo ad' ma ou od σc' uc' τ' σ u H0 Hm locs := by
  obtain ⟨⟨a1, a2⟩, ⟨b1, b2⟩, ⟨⟨f, c1⟩, f2, c2⟩, ⟨d1, d2, d3, d4, d5, d6⟩, e1, e2, e3⟩ := h
  have nm : ∀ k, mk9 k → ¬ xown ad σc (ma k) := fun k hk q => by
    obtain ⟨K, i, hi, e⟩ := q
    exact d1 K i hi k hk e.symm
  have no1 : ¬ xown ad σc ou := fun q => by
    obtain ⟨K, i, hi, e⟩ := q
    exact (d2 K i hi).1 e.symm
  have no2 : ¬ xown ad σc od := fun q => by
    obtain ⟨K, i, hi, e⟩ := q
    exact (d2 K i hi).2 e.symm
  refine ⟨⟨hX, hA⟩, ⟨b1.kept9 (fun k hm hl => hk _ hl (nm k hm)), b2⟩, ⟨⟨f, c1.kept (hk _ c1.lt no1)⟩, f2, c2.kept (hk _ c2.lt no2)⟩, ⟨fun K i hi k hm q => ?_, fun K i hi => ⟨fun q => ?_, fun q => ?_⟩, d3, d4, d5, d6⟩, Nat.le_trans e1 hz, fun q h1 h2 => ?_, e3⟩
  · rcases hd K i hi with ⟨w1, w2⟩ | w
    · exact d1 K i w1 k hm (w2.symm.trans q)
    · have := b1.lt9 hm
      omega
  · rcases hd K i hi with ⟨w1, w2⟩ | w
    · exact (d2 K i w1).1 (w2.symm.trans q)
    · have := c1.lt
      omega
  · rcases hd K i hi with ⟨w1, w2⟩ | w
    · exact (d2 K i w1).2 (w2.symm.trans q)
    · have := c2.lt
      omega
  · rw [hk q (by omega) (fun w => by
      obtain ⟨K, i, hi, e⟩ := w
      have := a2.2 K i hi
      exact h2 (by show lo ≤ q; omega))]
    exact e2 q h1 h2
theorem LJ.more (h : LJ g lo ad ma ou od σc uc τ σ u H0 H locs) (hl : ∀ z ∈ L, lo ≤ z.base) : LJ g lo ad ma ou od σc uc τ σ u H0 H (locs ++ L) := by
  obtain ⟨a, b, c, d, e1, e2, e3⟩ := h
  exact ⟨a, b, c, d, e1, e2, fun z hz => (List.mem_append.mp hz).elim (e3 z) (hl z)⟩
theorem LJ.keep (h : LJ g lo ad ma ou od σc uc τ σ u H0 H locs) (hz : H.size ≤ Hm.size) (hk : ∀ q, q < H.size → Hm[q]? = H[q]?) : LJ g lo ad ma ou od σc uc τ σ u H0 Hm locs :=
  h.mid hz (fun q h1 _ => hk q h1) (fun K i hi => (h.1.1 K i hi).kept (hk _ (h.1.1 K i hi).lt)) h.1.2 (fun K i hi => Or.inl ⟨hi, rfl⟩)
theorem LJ.outL {x : Int64} (h : LJ g lo ad ma ou od σc uc τ σ u H0 H locs) (hz : H1.size = H.size) (hk : ∀ q, q ≠ ou → H1[q]? = H[q]?) (hN : ANL g ou x H1) : LJ g lo ad ma ou od σc uc τ σ u H0 H1 locs := by
  obtain ⟨⟨a1, a2⟩, ⟨b1, b2⟩, ⟨c1, f2, c2⟩, ⟨d1, d2, d3, d4, d5, d6⟩, e1, e2, e3⟩ := h
  obtain ⟨f, hf, -⟩ := hN
  exact ⟨⟨fun K i hi => (a1 K i hi).kept (hk _ (d2 K i hi).1), a2⟩, ⟨b1.kept9 (fun k hm _ => hk _ (d3 k hm).1), b2⟩, ⟨⟨f, hf⟩, f2, c2.kept (hk _ d4.symm)⟩, ⟨d1, d2, d3, d4, d5, d6⟩, by omega, fun q h1 h2 => (hk q (fun w => h2 (by show lo ≤ q; omega))).trans (e2 q h1 h2), e3⟩
theorem LJ.outD {x : UInt64} (h : LJ g lo ad ma ou od σc uc τ σ u H0 H locs) (hz : H1.size = H.size) (hk : ∀ q, q ≠ od → H1[q]? = H[q]?) (hN : AND g od x H1) : LJ g lo ad ma ou od σc uc τ σ u H0 H1 locs := by
  obtain ⟨⟨a1, a2⟩, ⟨b1, b2⟩, ⟨⟨f2, c1⟩, c2⟩, ⟨d1, d2, d3, d4, d5, d6⟩, e1, e2, e3⟩ := h
  obtain ⟨f, hf, -⟩ := hN
  exact ⟨⟨fun K i hi => (a1 K i hi).kept (hk _ (d2 K i hi).2), a2⟩, ⟨b1.kept9 (fun k hm _ => hk _ (d3 k hm).2), b2⟩, ⟨⟨f2, c1.kept (hk _ d4)⟩, f, hf⟩, ⟨d1, d2, d3, d4, d5, d6⟩, by omega, fun q h1 h2 => (hk q (fun w => h2 (by show lo ≤ q; omega))).trans (e2 q h1 h2), e3⟩
/-- the reference has gone on -/
theorem LJ.model (h : LJ g lo ad ma ou od σc uc τ σ u H0 H locs) (hM : MR g ma σ' u' H1) (hz : H1.size = H.size) (hk : ∀ q, ¬ mown ma q → H1[q]? = H[q]?) (hl : ∀ z ∈ L, lo ≤ z.base) : LJ g lo ad ma ou od σc uc τ σ' u' H0 H1 L := by
  obtain ⟨⟨a1, a2⟩, ⟨b1, b2⟩, ⟨⟨f, c1⟩, f2, c2⟩, ⟨d1, d2, d3, d4, d5, d6⟩, e1, e2, e3⟩ := h
  have no1 : ¬ mown ma ou := fun q => by
    obtain ⟨k, hm, e⟩ := q
    exact (d3 k hm).1 e.symm
  have no2 : ¬ mown ma od := fun q => by
    obtain ⟨k, hm, e⟩ := q
    exact (d3 k hm).2 e.symm
  exact ⟨⟨fun K i hi => (a1 K i hi).kept (hk _ (fun q => by
    obtain ⟨k, hm, e⟩ := q
    exact d1 K i hi k hm e)), a2⟩, ⟨hM, b2⟩, ⟨⟨f, c1.kept (hk _ no1)⟩, f2, c2.kept (hk _ no2)⟩, ⟨d1, d2, d3, d4, d5, d6⟩, by omega, fun q h1 h2 => (hk q (fun w => by
    obtain ⟨k, hm, e⟩ := w
    have := b2.2 k hm
    exact h2 (by show lo ≤ q; omega))).trans (e2 q h1 h2), hl⟩
end LJS
/-- behind a helper: the class at F, the answer in its cell where t is 0 -/
def PW (g : EG) (lo : Nat) (ad : Nat → Nat → Nat) (ma : Nat → Nat) (ou od : Nat) (F : Sg) (Fu : Nat → Int64) (σ : Sg) (u : Nat → Int64) (H0 : Heap) (t : Int32) (N : Heap → Prop) (H1 : Heap) (L : List Loc) : Prop :=
  ∃ ad' τ', ad' 0 0 = ad 0 0 ∧ LJ g lo ad' ma ou od F Fu τ' σ u H0 H1 L ∧ (t = 0 → N H1)
section PWS
variable {g : EG} {lo : Nat} {ad : Nat → Nat → Nat} {ma : Nat → Nat} {ou od : Nat} {F : Sg} {Fu : Nat → Int64} {τ σ : Sg} {u : Nat → Int64} {H0 H H1 : Heap} {locs L : List Loc} {t : Int32} {x : Int64} {y : UInt64}
theorem pw_ro (hF : SMR σ F) (h : LJ g lo ad ma ou od σ u τ σ u H0 H locs) (h1 : t ≠ 0 → H.size ≤ H1.size ∧ ∀ q, q < H.size → H1[q]? = H[q]?) (h2 : t = 0 → ∃ Hm, Hm = H ∧ H1.size = Hm.size ∧ (∀ q, q ≠ ou → H1[q]? = Hm[q]?) ∧ ANL g ou x H1) (hl : ∀ z ∈ L, lo ≤ z.base) : PW g lo ad ma ou od F u σ u H0 t (ANL g ou x) H1 (locs ++ L) := by
  by_cases ht : t = 0
  · obtain ⟨Hm, rfl, a1, a2, a3⟩ := h2 ht
    exact ⟨ad, τ, rfl, ((h.outL a1 a2 a3).smr hF).more hl, fun _ => a3⟩
  · obtain ⟨a1, a2⟩ := h1 ht
    exact ⟨ad, τ, rfl, ((h.keep a1 a2).smr hF).more hl, fun q => absurd q ht⟩
theorem pw_roD (hF : SMR σ F) (h : LJ g lo ad ma ou od σ u τ σ u H0 H locs) (h1 : t ≠ 0 → H.size ≤ H1.size ∧ ∀ q, q < H.size → H1[q]? = H[q]?) (h2 : t = 0 → ∃ Hm, Hm = H ∧ H1.size = Hm.size ∧ (∀ q, q ≠ od → H1[q]? = Hm[q]?) ∧ AND g od y H1) (hl : ∀ z ∈ L, lo ≤ z.base) : PW g lo ad ma ou od F u σ u H0 t (AND g od y) H1 (locs ++ L) := by
  by_cases ht : t = 0
  · obtain ⟨Hm, rfl, a1, a2, a3⟩ := h2 ht
    exact ⟨ad, τ, rfl, ((h.outD a1 a2 a3).smr hF).more hl, fun _ => a3⟩
  · obtain ⟨a1, a2⟩ := h1 ht
    exact ⟨ad, τ, rfl, ((h.keep a1 a2).smr hF).more hl, fun q => absurd q ht⟩
theorem pw_plan (hF : SMR σ F) (h : LJ g lo ad ma ou od σ u τ σ u H0 H locs) (h1 : t ≠ 0 → H.size ≤ H1.size ∧ ∀ q, q < H.size → H1[q]? = H[q]?) (h2 : t = 0 → ∃ Hm, ((∃ τ9, XR g ad σ u τ9 Hm) ∧ H.size ≤ Hm.size ∧ ∀ q, q < H.size → ¬ xown ad σ q → Hm[q]? = H[q]?) ∧ H1.size = Hm.size ∧ (∀ q, q ≠ ou → H1[q]? = Hm[q]?) ∧ ANL g ou x H1) (hl : ∀ z ∈ L, lo ≤ z.base) : PW g lo ad ma ou od F u σ u H0 t (ANL g ou x) H1 (locs ++ L) := by
  by_cases ht : t = 0
  · obtain ⟨Hm, ⟨⟨τ9, b1⟩, b2, b3⟩, a1, a2, a3⟩ := h2 ht
    have hm := h.mid b2 b3 b1 h.1.2 (fun K i hi => Or.inl ⟨hi, rfl⟩)
    exact ⟨ad, τ9, rfl, ((hm.outL a1 a2 a3).smr hF).more hl, fun _ => a3⟩
  · obtain ⟨a1, a2⟩ := h1 ht
    exact ⟨ad, τ, rfl, ((h.keep a1 a2).smr hF).more hl, fun q => absurd q ht⟩
theorem pw_mut (hF : t ≠ 0 → F = up σ 0 0 t ∧ Fu = u) (hn : xcnt F = xcnt σ) (h : LJ g lo ad ma ou od σ u τ σ u H0 H locs) (h1 : t ≠ 0 → H.size ≤ H1.size ∧ ∀ q, q < H.size → H1[q]? = H[q]?) (h2 : t = 0 → ∃ Hm, (XR g ad F Fu τ Hm ∧ H.size ≤ Hm.size ∧ ∀ q, q < H.size → ¬ xown ad σ q → Hm[q]? = H[q]?) ∧ H1.size = Hm.size ∧ (∀ q, q ≠ ou → H1[q]? = Hm[q]?) ∧ ANL g ou x H1) (hl : ∀ z ∈ L, lo ≤ z.base) : PW g lo ad ma ou od F Fu σ u H0 t (ANL g ou x) H1 (locs ++ L) := by
  by_cases ht : t = 0
  · obtain ⟨Hm, ⟨b1, b2, b3⟩, a1, a2, a3⟩ := h2 ht
    have hm := h.mid b2 b3 b1 (show XA lo ad F from by unfold XA; rw [hn]; exact h.1.2) (fun K i hi => Or.inl ⟨by rw [hn] at hi; exact hi, rfl⟩)
    exact ⟨ad, τ, rfl, (hm.outL a1 a2 a3).more hl, fun _ => a3⟩
  · obtain ⟨a1, a2⟩ := h1 ht
    obtain ⟨rfl, rfl⟩ := hF ht
    exact ⟨ad, τ, rfl, ((h.keep a1 a2).smr (SMR.u0 σ t)).more hl, fun q => absurd q ht⟩
theorem pw_add (hF : t ≠ 0 → F = up σ 0 0 t) (h : LJ g lo ad ma ou od σ u τ σ u H0 H locs) (h1 : t ≠ 0 → H.size ≤ H1.size ∧ ∀ q, q < H.size → H1[q]? = H[q]?) (h2 : t = 0 → ∃ Hm, (XG g lo H.size ad σ F u τ Hm ∧ H.size ≤ Hm.size ∧ ∀ q, q < H.size → ¬ xown ad σ q → Hm[q]? = H[q]?) ∧ H1.size = Hm.size ∧ (∀ q, q ≠ ou → H1[q]? = Hm[q]?) ∧ ANL g ou x H1) (hl : ∀ z ∈ L, lo ≤ z.base) : PW g lo ad ma ou od F u σ u H0 t (ANL g ou x) H1 (locs ++ L) := by
  by_cases ht : t = 0
  · obtain ⟨Hm, ⟨⟨ad', c1, c2, c3, c4⟩, b2, b3⟩, a1, a2, a3⟩ := h2 ht
    have hm := h.mid b2 b3 c3 c2 (fun K i hi => by
      by_cases w : i < xcnt σ K
      · exact Or.inl ⟨w, c1 K i w⟩
      · exact Or.inr (c4 K i hi w))
    exact ⟨ad', τ, c1 0 0 Nat.zero_lt_one, (hm.outL a1 a2 a3).more hl, fun _ => a3⟩
  · obtain ⟨a1, a2⟩ := h1 ht
    have e := hF ht
    subst e
    exact ⟨ad, τ, rfl, ((h.keep a1 a2).smr (SMR.u0 σ t)).more hl, fun q => absurd q ht⟩
end PWS
def LAWF (g : EG) (p : Program) (s : State) (m : MethodId) (c : Code) (b L : Nat) (xs : Nat → Int32) : Prop :=
  p.tables.exec = Jvm.exec ∧ c.code = cL_law ∧ c.maxLocals = 9 ∧ s.vm.findClass RL = some m.cls ∧ (∀ w ∈ lw_tbl, w.before #[Value.ref b] s = true) ∧ va_X b L xs s s.heap ∧ b < s.heap.size ∧ EL g s.heap.size s
section LROWS
variable {p : Program} {l : Launch} {e : Env} {R : Room} {s : State} {m : MethodId} {below : List Frame} {meth : Method} {c : Code} {H : Heap} {locs : List Loc} {cells slots : Nat} {Q : State → Prop}
variable {pc : Nat} {ls : Array Slot} {rest st0 : List Value} {g : EG} {b L : Nat} {xs : Nat → Int32} {ad : Nat → Nat → Nat} {ma : Nat → Nat} {ou od : Nat} {σc : Sg} {uc : Nat → Int64} {τ σ : Sg} {u : Nat → Int64}
theorem LAWF.el (F : LAWF g p s m c b L xs) {U : State} (hW : s.WarmedH U.vm) (hS : va_S (fun q => s.heap.size ≤ q) s.heap U.heap locs) : EL g s.heap.size U := F.2.2.2.2.2.2.2.at hW (fun q hq => hS.2.1 q hq (Nat.not_le.mpr hq))
theorem lw_sld (F : LAWF g p s m c b L xs) (hS : va_S (fun q => s.heap.size ≤ q) s.heap H locs) {j : Int32} {n : Nat} (hj : j = nI n) (hn : n < L) (hL : L ≤ 3072) (hdg : decode cL_law pc = .ok (.iaload, 1))
    (kk : W p l e R s m #[Value.ref b] below meth c H locs cells slots Q (F0 m (pc + 1) ls (.int (xs n) :: rest))) : W p l e R s m #[Value.ref b] below meth c H locs cells slots Q (F0 m pc ls (.int j :: .ref b :: rest)) := by
  subst hj
  refine va_sld F.1 F.2.1 F.2.2.2.2.2.1 F.2.2.2.2.2.2.1 (Nat.not_le.mpr F.2.2.2.2.2.2.1) hS (vin_nI hn (by omega)) hdg ?_
  rw [show (nI n).toNatClampNeg = n from ti_nI (by omega)]
  exact kk
/-- a helper of the law is called -/
theorem lw_wrap {t : Int32} {oc mc ms : Nat} {Fσ : Sg} {Fu : Nat → Int64} {G : Heap → Heap → Prop} {N : Heap → Prop} {Pre : State → Prop} {y : MethodName} {bytes : ByteArray} {maxL index n : Nat} {ret : Option FieldType} {hh : List (Nat × Nat × Nat × Nat)} {ws ws' : List Cond} {rm : Room} {As : List Value} (F : LAWF g p s m c b L xs) (hJ : LJ g s.heap.size ad ma ou od σ u τ σ u s.heap H locs)
    (hc : Met l y ws rm (va_Pc As Pre) (QW oc t G N) mc ms (fun q => s.heap.size ≤ q)) (hpre : ∀ U : State, U.heap = H → EL g s.heap.size U → Pre U) (hcal : ∀ (U : State) (a : Array Value) (g9 : JFrame) (mk : MethodId), Pre U → Pre (U.calling g9 mk a))
    (hpost : ∀ H1 L1, (t ≠ 0 → H.size ≤ H1.size ∧ ∀ q, q < H.size → H1[q]? = H[q]?) → (t = 0 → ∃ Hm, G H Hm ∧ H1.size = Hm.size ∧ (∀ q, q ≠ oc → H1[q]? = Hm[q]?) ∧ N H1) → (∀ z ∈ L1, s.heap.size ≤ z.base) → PW g s.heap.size ad ma ou od Fσ Fu σ u s.heap t N H1 (locs ++ L1))
    (hG : GoodIn lw_tbl (va_wsS RL index y ws)) (hw : ws = Cond.codeWith y bytes maxL ret hh :: ws') (hrc : rm.cells = mc) (hrs : rm.slots = ms)
    (hd : y.cls ≠ "java/lang/invoke/MethodHandle" ∧ y.cls ≠ "java/lang/invoke/VarHandle" ∧ (parseMethodDescriptor y.desc).map (fun d => d.parameters.length) = some n) (hR : rm.frames + 1 ≤ R.frames ∧ 8 + (maxL + 11) + rm.locals ≤ R.locals)
    (hn : As.length = n) (hsize : ls.size = 9) (hst : st0 = As.reverse ++ rest) (hcat : (rest.map fun v => v.category).sum ≤ 8) (hdg : decode cL_law pc = .ok (.invokestatic index, 3)) (hf : cells + mc ≤ R.cells ∧ slots + ms ≤ R.slots)
    (kk : ∀ H1 locs1, PW g s.heap.size ad ma ou od Fσ Fu σ u s.heap t N H1 locs1 → W p l e R s m #[Value.ref b] below meth c H1 locs1 (cells + mc) (slots + ms) Q (F0 m (pc + 3) ls (.int t :: rest))) :
    W p l e R s m #[Value.ref b] below meth c H locs cells slots Q (F0 m pc ls st0) := by
  subst hst
  obtain ⟨hx, hb, hml, hown, hts, hXs, hbl, hEL⟩ := id F
  have hr := vx_runSW (e := e) (As := As) (rest := rest) (g := F0 m pc ls (As.reverse ++ rest)) (H := H) (locs := locs) (cells := cells) (slots := slots) (below := below) (meth := meth) (R := R) ⟨hx, hb, hml, hown, hts⟩ hc (vx_cwSW n hts hG hw hrc hrs hd hR) ⟨fun a U g9 mk q => ⟨q.1, hcal U a g9 mk q.2⟩, fun U hU hW => ⟨rfl, hpre U hU (F.el (locs := locs) hW (by rw [hU]; exact hJ.2.2.2.2))⟩⟩ rfl hn hsize rfl (lv_room hcat) hdg hf
  intro T hT X
  obtain ⟨v1, st₀, t2, T', L1, h0, X', hL1, e1, e2, ⟨hq, h2, h3⟩, st⟩ := hr T hT X
  cases hq
  rw [h0, ← e1] at h2 h3
  obtain ⟨t3, a1, b1⟩ := kk T'.heap (locs ++ L1) (hpost T'.heap L1 h2 h3 hL1) T' rfl X'
  exact ⟨t3, st t3 a1, b1⟩
/-- the reference is called -/
theorem lw_mod {σ' : Sg} {u' : Nat → Int64} {H0 : Heap} {y : MethodName} {bytes : ByteArray} {maxL index n : Nat} {ret : Option FieldType} {ws ws' : List Cond} {rm : Room} {As v : List Value} {ov : Option Value} (F : LAWF g p s m c b L xs) (hJ : LJ g s.heap.size ad ma ou od σc uc τ σ u s.heap H locs)
    (hc : Met l y ws rm (va_Pc (.ref (ma 0) :: As) (fun U => MR g ma σ u U.heap ∧ KK g U)) (QM (.returned ov) (fun H1 => MR g ma σ' u' H1) (mown ma)) 0 0 (fun q => s.heap.size ≤ q)) (hG : GoodIn lw_tbl (wsV RL index RX7 y ws)) (hw : ws = Cond.code y bytes maxL ret :: ws') (hrc : rm.cells = 0) (hrs : rm.slots = 0)
    (hd : y.cls = RX7 ∧ y.cls ≠ "java/lang/invoke/MethodHandle" ∧ y.cls ≠ "java/lang/invoke/VarHandle" ∧ (parseMethodDescriptor y.desc).map (fun d => d.parameters.length) = some n) (hR : rm.frames + 1 ≤ R.frames ∧ 8 + (maxL + 11) + rm.locals ≤ R.locals)
    (hn : As.length = n) (hsize : ls.size = 9) (hst : st0 = As.reverse ++ .ref (ma 0) :: rest) (hcat : (rest.map fun v => v.category).sum ≤ 8) (hdg : decode cL_law pc = .ok (.invokevirtual index, 3)) (hf : cells ≤ R.cells ∧ slots ≤ R.slots) (hov : ov.toList = v)
    (kk : ∀ H1 locs1, LJ g s.heap.size ad ma ou od σc uc τ σ' u' s.heap H1 locs1 → (∀ q, ¬ mown ma q → H1[q]? = H[q]?) → W p l e R s m #[Value.ref b] below meth c H1 locs1 cells slots Q (F0 m (pc + 3) ls (v ++ rest))) :
    W p l e R s m #[Value.ref b] below meth c H locs cells slots Q (F0 m pc ls st0) := by
  subst hst
  obtain ⟨hx, hb, hml, hown, hts, hXs, hbl, hEL⟩ := id F
  have hK : KK g s := hEL.1.1.1
  exact cr_mu hov (va_runV (As := As) (rest := rest) ⟨hx, hb, hml, hown, hts⟩ hc (cwV n hts hG hw hrc hrs hd hR) ⟨fun a U g9 mk q => by obtain ⟨q0, q1, q2⟩ := q; exact ⟨q0, q1, va_K.moved (u := U) (U := U.calling g9 mk a) (Vm.Alike.refl U.vm) q2⟩, va_recv hK (sp_one hJ.2.1.1.1) (ci := 9) (q0 := 0) rfl rfl, fun U hU hW => ⟨rfl, by rw [hU]; exact hJ.2.1.1, va_K.moved hW.alike hK⟩⟩ rfl hn hsize rfl (lv_room hcat) hdg hf) hJ.2.2.2.2.2.2
    (fun H1 locs1 h1 h2 h3 h4 => kk H1 locs1 (hJ.model h1 h2 h3 h4) h3)
theorem lw_thr {tt : Int32} {y : MethodName} {bytes : ByteArray} {maxL index n : Nat} {ret : Option FieldType} {ws ws' : List Cond} {rm : Room} {As v : List Value} {ov : Option Value} (F : LAWF g p s m c b L xs) (hJ : LJ g s.heap.size ad ma ou od σc uc τ σ u s.heap H locs)
    (hc : Met l y ws rm (va_Pc (.ref (ma 0) :: As) (fun U => MR g ma σ u U.heap ∧ KK g U)) (QR (.returned ov)) 0 0 (fun _ => False)) (hG : GoodIn lw_tbl (wsV RL index RX7 y ws)) (hw : ws = Cond.code y bytes maxL ret :: ws') (hrc : rm.cells = 0) (hrs : rm.slots = 0)
    (hd : y.cls = RX7 ∧ y.cls ≠ "java/lang/invoke/MethodHandle" ∧ y.cls ≠ "java/lang/invoke/VarHandle" ∧ (parseMethodDescriptor y.desc).map (fun d => d.parameters.length) = some n) (hR : rm.frames + 1 ≤ R.frames ∧ 8 + (maxL + 11) + rm.locals ≤ R.locals)
    (hn : As.length = n) (hsize : ls.size = 9) (hst : st0 = As.reverse ++ .ref (ma 0) :: rest) (hcat : (rest.map fun v => v.category).sum ≤ 8) (hdg : decode cL_law pc = .ok (.invokevirtual index, 3)) (hf : cells ≤ R.cells ∧ slots ≤ R.slots) (hov : ov.toList = v)
    (kk : W p l e R s m #[Value.ref b] below meth c H locs cells slots Q (F0 m (pc + 3) ls (v ++ rest))) :
    W p l e R s m #[Value.ref b] below meth c H locs cells slots Q (F0 m pc ls st0) := by
  subst hst
  obtain ⟨hx, hb, hml, hown, hts, hXs, hbl, hEL⟩ := id F
  have hK : KK g s := hEL.1.1.1
  exact cr_ro hov (va_runV (As := As) (rest := rest) ⟨hx, hb, hml, hown, hts⟩ hc (cwV n hts hG hw hrc hrs hd hR) ⟨fun a U g9 mk q => by obtain ⟨q0, q1, q2⟩ := q; exact ⟨q0, q1, va_K.moved (u := U) (U := U.calling g9 mk a) (Vm.Alike.refl U.vm) q2⟩, va_recv hK (sp_one hJ.2.1.1.1) (ci := 9) (q0 := 0) rfl rfl, fun U hU hW => ⟨rfl, by rw [hU]; exact hJ.2.1.1, va_K.moved hW.alike hK⟩⟩ rfl hn hsize rfl (lv_room hcat) hdg hf) kk
/-- the class is asked, where nothing can be thrown -/
theorem lw_cls {y : MethodName} {bytes : ByteArray} {maxL index n : Nat} {ret : Option FieldType} {ws ws' : List Cond} {rm : Room} {As v : List Value} {ov : Option Value} (F : LAWF g p s m c b L xs) (hJ : LJ g s.heap.size ad ma ou od σc uc τ σ u s.heap H locs)
    (hc : Met l y ws rm (va_Pc (.ref (ad 0 0) :: As) (fun U => XR g ad σc uc τ U.heap ∧ KK g U)) (QR (.returned ov)) 0 0 (fun _ => False)) (hG : GoodIn lw_tbl (wsV RL index RX6 y ws)) (hw : ws = Cond.code y bytes maxL ret :: ws') (hrc : rm.cells = 0) (hrs : rm.slots = 0)
    (hd : y.cls = RX6 ∧ y.cls ≠ "java/lang/invoke/MethodHandle" ∧ y.cls ≠ "java/lang/invoke/VarHandle" ∧ (parseMethodDescriptor y.desc).map (fun d => d.parameters.length) = some n) (hR : rm.frames + 1 ≤ R.frames ∧ 8 + (maxL + 11) + rm.locals ≤ R.locals)
    (hn : As.length = n) (hsize : ls.size = 9) (hst : st0 = As.reverse ++ .ref (ad 0 0) :: rest) (hcat : (rest.map fun v => v.category).sum ≤ 8) (hdg : decode cL_law pc = .ok (.invokevirtual index, 3)) (hf : cells ≤ R.cells ∧ slots ≤ R.slots) (hov : ov.toList = v)
    (kk : W p l e R s m #[Value.ref b] below meth c H locs cells slots Q (F0 m (pc + 3) ls (v ++ rest))) :
    W p l e R s m #[Value.ref b] below meth c H locs cells slots Q (F0 m pc ls st0) := by
  subst hst
  obtain ⟨hx, hb, hml, hown, hts, hXs, hbl, hEL⟩ := id F
  have hK : KK g s := hEL.1.1.1
  exact cr_ro hov (va_runV (As := As) (rest := rest) ⟨hx, hb, hml, hown, hts⟩ hc (cwV n hts hG hw hrc hrs hd hR) ⟨fun a U g9 mk q => by obtain ⟨q0, q1, q2⟩ := q; exact ⟨q0, q1, va_K.moved (u := U) (U := U.calling g9 mk a) (Vm.Alike.refl U.vm) q2⟩, va_recv hK (sp_one (hJ.1.1 0 0 Nat.zero_lt_one)) (ci := 8) (q0 := 0) rfl rfl, fun U hU hW => ⟨rfl, by rw [hU]; exact hJ.1.1, va_K.moved hW.alike hK⟩⟩ rfl hn hsize rfl (lv_room hcat) hdg hf) kk
end LROWS
