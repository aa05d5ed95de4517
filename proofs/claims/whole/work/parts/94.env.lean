/-! ===== the law's start: what the tables and the Statement give ===== -/
set_option maxRecDepth 100000 in
theorem wfJ0_in : ∀ w ∈ wsJ00, w ∈ lw_tbl := by decide +kernel
set_option maxRecDepth 100000 in
theorem wfJx_in : ∀ w ∈ wsJx000600, w ∈ lw_tbl := by decide +kernel
set_option maxRecDepth 100000 in
theorem wfi_in : ∀ w ∈ ([.instantiable RJ0 4, .instantiable RJx00060 6, .instantiable RX0 9, .instantiable RX1 5, .instantiable RX2 7, .instantiable RX3 2, .instantiable RX4 3, .instantiable RX5 6, .instantiable RX6 11, .instantiable RX7 29] : List Cond), w ∈ lw_tbl := by decide +kernel
set_option maxRecDepth 100000 in
theorem wfa_in : ∀ w ∈ ([.arrayClass .char, .arrayClass .int, .arrayClass .long, .arrayClass .double, .arrayOver (.object RX3), .arrayOver (.object RX1), .arrayOver (.object RX0), .arrayOver (.object RX5)] : List Cond), w ∈ lw_tbl := by decide +kernel
set_option maxRecDepth 100000 in
theorem wfn_in : ∀ w ∈ ([.classLink RL 8 RX6, .initialized RX6, .methodLink RL 157 yX6_init, .instanceMethod yX6_init, .classLink RL 158 RX7, .initialized RX7, .methodLink RL 160 yX7_init, .instanceMethod yX7_init] : List Cond), w ∈ lw_tbl := by decide +kernel
set_option maxRecDepth 100000 in
theorem wfs_in : ∀ w ∈ ([.laysStatic Bundle.tN "UNASSIGNED_STACK" Bundle.steD, .laysStatic Bundle.tN "SUPPRESSED_SENTINEL" Bundle.listD, .initialized Bundle.tN, .methodLinkNest RX2 92 yX6_isTooDark RX6, .methodLinkNest RX2 96 yX6_isBarred RX6] : List Cond), w ∈ lw_tbl := by decide +kernel
set_option maxRecDepth 100000 in
theorem wfx_in : ∀ w ∈ xwl, w ∈ lw_tbl := by decide +kernel
def caL : List Cond := [.castable (en 1) (en 1), .castable (en 2) (en 2), .castable (en 3) (en 3), .castable (en 4) (en 4), .castable (en 5) (en 5), .castable (en 6) (en 6)]
set_option maxRecDepth 100000 in
theorem wfc_in : ∀ w ∈ caL, w ∈ lw_tbl := by decide +kernel
section ENV
variable {b : Nat} {s : State}
theorem lw_kn (hts : ∀ w ∈ lw_tbl, w.before #[Value.ref b] s = true) : ∀ k : Nat, ∃ d : ClassId × (Nat → Nat), ∀ q : vw_C, vwCl[k]? = some q → u_Kn s q.1 q.2.1 q.2.2 d.1 d.2 := by
  have mk : ∀ (k : Nat) {C : String} {T : u_T} {N n : Nat}, (∀ w ∈ u_ws C T N, w ∈ lw_tbl) → Cond.instantiable C n ∈ lw_tbl → vwCl[k]? = some (C, T, N) → ∃ d : ClassId × (Nat → Nat), ∀ q : vw_C, vwCl[k]? = some q → u_Kn s q.1 q.2.1 q.2.2 d.1 d.2 := by
    intro k C T N n h1 h2 h3
    obtain ⟨cC, iS, h⟩ := u_known (n := n) hts h1 (hts _ h2)
    exact ⟨(cC, iS), fun q hq => by cases h3.symm.trans hq; exact h⟩
  intro k
  match k with
  | 0 => exact mk 0 wfJ0_in (wfi_in _ (.head _)) rfl
  | 1 => exact mk 1 wfJx_in (wfi_in _ (.tail _ (.head _))) rfl
  | 2 => exact mk 2 wfX0_in (wfi_in _ (.tail _ (.tail _ (.head _)))) rfl
  | 3 => exact mk 3 wfX1_in (wfi_in _ (.tail _ (.tail _ (.tail _ (.head _))))) rfl
  | 4 => exact mk 4 wfX2_in (wfi_in _ (.tail _ (.tail _ (.tail _ (.tail _ (.head _)))))) rfl
  | 5 => exact mk 5 wfX3_in (wfi_in _ (.tail _ (.tail _ (.tail _ (.tail _ (.tail _ (.head _))))))) rfl
  | 6 => exact mk 6 wfX4_in (wfi_in _ (.tail _ (.tail _ (.tail _ (.tail _ (.tail _ (.tail _ (.head _)))))))) rfl
  | 7 => exact mk 7 wfX5_in (wfi_in _ (.tail _ (.tail _ (.tail _ (.tail _ (.tail _ (.tail _ (.tail _ (.head _))))))))) rfl
  | 8 => exact mk 8 wfX6_in (wfi_in _ (.tail _ (.tail _ (.tail _ (.tail _ (.tail _ (.tail _ (.tail _ (.tail _ (.head _)))))))))) rfl
  | 9 => exact mk 9 wfX7_in (wfi_in _ (.tail _ (.tail _ (.tail _ (.tail _ (.tail _ (.tail _ (.tail _ (.tail _ (.tail _ (.head _))))))))))) rfl
  | k + 10 => exact ⟨((0 : Nat), fun _ => 0), fun q hq => by simp at hq⟩
theorem lw_ap {ty : FieldType} {cA : ClassId} {kA : Class} {comp : ClassId} (h2 : s.vm.classes[cA]? = some kA) (h3 : kA.kind = .array comp ty) : ArrOfT s cA ty := fun n z => ⟨fun k h => (by cases h), kA, h2, comp, h3⟩
theorem lw_ao {C : String} (h : (Cond.arrayOver (.object C)).before #[Value.ref b] s = true) : ∃ cA : ClassId, ArrOfT s cA (.object C) ∧ va_RA s cA (.object C) := by
  obtain ⟨comp, cA, kA, h1, -, h3, h4, h5⟩ := Cond.arrayOver_spec h
  exact ⟨cA, lw_ap h3 h4, kA, comp, h3, h4, h1, h5⟩
abbrev ty9 : List FieldType := [.char, .int, .long, .object RX0, .object RX1, .object RX3, .object RX5, .double]
theorem lw_ar (hts : ∀ w ∈ lw_tbl, w.before #[Value.ref b] s = true) : ∀ k : Nat, ∃ cA : ClassId, ∀ ty, ty9[k]? = some ty → ArrOfT s cA ty ∧ va_RA s cA ty := by
  intro k
  match k with
  | 0 =>
    obtain ⟨cA, kA, comp, h1, h2, h3⟩ := Cond.arrayClass_spec (hts _ (wfa_in _ (.head _)))
    exact ⟨cA, fun ty hq => by cases hq; exact ⟨lw_ap h2 h3, h1⟩⟩
  | 1 =>
    obtain ⟨cA, kA, comp, h1, h2, h3⟩ := Cond.arrayClass_spec (hts _ (wfa_in _ (.tail _ (.head _))))
    exact ⟨cA, fun ty hq => by cases hq; exact ⟨lw_ap h2 h3, h1⟩⟩
  | 2 =>
    obtain ⟨cA, kA, comp, h1, h2, h3⟩ := Cond.arrayClass_spec (hts _ (wfa_in _ (.tail _ (.tail _ (.head _)))))
    exact ⟨cA, fun ty hq => by cases hq; exact ⟨lw_ap h2 h3, h1⟩⟩
  | 3 =>
    obtain ⟨cA, h⟩ := lw_ao (hts _ (wfa_in _ (.tail _ (.tail _ (.tail _ (.tail _ (.tail _ (.tail _ (.head _)))))))))
    exact ⟨cA, fun ty hq => by cases hq; exact h⟩
  | 4 =>
    obtain ⟨cA, h⟩ := lw_ao (hts _ (wfa_in _ (.tail _ (.tail _ (.tail _ (.tail _ (.tail _ (.head _))))))))
    exact ⟨cA, fun ty hq => by cases hq; exact h⟩
  | 5 =>
    obtain ⟨cA, h⟩ := lw_ao (hts _ (wfa_in _ (.tail _ (.tail _ (.tail _ (.tail _ (.head _)))))))
    exact ⟨cA, fun ty hq => by cases hq; exact h⟩
  | 6 =>
    obtain ⟨cA, h⟩ := lw_ao (hts _ (wfa_in _ (.tail _ (.tail _ (.tail _ (.tail _ (.tail _ (.tail _ (.tail _ (.head _))))))))))
    exact ⟨cA, fun ty hq => by cases hq; exact h⟩
  | 7 =>
    obtain ⟨cA, kA, comp, h1, h2, h3⟩ := Cond.arrayClass_spec (hts _ (wfa_in _ (.tail _ (.tail _ (.tail _ (.head _))))))
    exact ⟨cA, fun ty hq => by cases hq; exact ⟨lw_ap h2 h3, h1⟩⟩
  | k + 8 => exact ⟨(0 : Nat), fun q hq => by simp at hq⟩
theorem lw_env (hts : ∀ w ∈ lw_tbl, w.before #[Value.ref b] s = true) : ∃ g : EG, KK g s := by
  have h1 := lw_kn hts
  have h2 := lw_ar hts
  refine ⟨((fun k => (Classical.choose (h1 k)).1, fun k => (Classical.choose (h1 k)).2), fun k => Classical.choose (h2 k)), fun k q hq => Classical.choose_spec (h1 k) q hq, fun k q hq => ?_⟩
  match k, hq with
  | 0, hq => cases hq; exact Classical.choose_spec (h2 0) _ rfl
  | 1, hq => cases hq; exact Classical.choose_spec (h2 1) _ rfl
  | 2, hq => cases hq; exact Classical.choose_spec (h2 2) _ rfl
  | 3, hq => cases hq; exact Classical.choose_spec (h2 3) _ rfl
  | 4, hq => cases hq; exact Classical.choose_spec (h2 4) _ rfl
  | 5, hq => cases hq; exact Classical.choose_spec (h2 5) _ rfl
  | 6, hq => cases hq; exact Classical.choose_spec (h2 6) _ rfl
  | 7, hq => cases hq; exact Classical.choose_spec (h2 7) _ rfl
  | k + 8, hq => simp at hq
theorem lw_an (hts : ∀ w ∈ lw_tbl, w.before #[Value.ref b] s = true) : AN s :=
  ⟨va_AO.of (hts _ (wfa_in _ (.tail _ (.tail _ (.tail _ (.tail _ (.head _))))))), va_AO.of (hts _ (wfa_in _ (.tail _ (.tail _ (.tail _ (.tail _ (.tail _ (.head _)))))))), va_AO.of (hts _ (wfa_in _ (.tail _ (.tail _ (.tail _ (.tail _ (.tail _ (.tail _ (.head _))))))))), va_AO.of (hts _ (wfa_in _ (.tail _ (.tail _ (.tail _ (.tail _ (.tail _ (.tail _ (.tail _ (.head _))))))))))⟩
def ncL : List Cond := [.not (.castable (en 1) (en 2)), .not (.castable (en 1) (en 3)), .not (.castable (en 1) (en 4)), .not (.castable (en 1) (en 5)), .not (.castable (en 1) (en 6)), .not (.castable (en 2) (en 1)), .not (.castable (en 2) (en 3)), .not (.castable (en 2) (en 4)), .not (.castable (en 2) (en 5)), .not (.castable (en 2) (en 6)), .not (.castable (en 3) (en 1)), .not (.castable (en 3) (en 2)), .not (.castable (en 3) (en 4)), .not (.castable (en 3) (en 5)), .not (.castable (en 3) (en 6)), .not (.castable (en 4) (en 1)), .not (.castable (en 4) (en 2)), .not (.castable (en 4) (en 3)), .not (.castable (en 4) (en 5)), .not (.castable (en 4) (en 6)), .not (.castable (en 5) (en 1)), .not (.castable (en 5) (en 2)), .not (.castable (en 5) (en 3)), .not (.castable (en 5) (en 4)), .not (.castable (en 5) (en 6)), .not (.castable (en 6) (en 1)), .not (.castable (en 6) (en 2)), .not (.castable (en 6) (en 3)), .not (.castable (en 6) (en 4)), .not (.castable (en 6) (en 5))]
def isL : List Cond := [.isRef (.static Bundle.tN "UNASSIGNED_STACK" Bundle.steD), .isRef (.static Bundle.tN "SUPPRESSED_SENTINEL" Bundle.listD)]
theorem lw_nc {args : Array Value} (hgv : ∀ w ∈ ncL, w.before args s = true) : ∀ i j, 1 ≤ i → i ≤ 6 → 1 ≤ j → j ≤ 6 → i ≠ j → va_Nc (en i) (en j) s := by
  intro i j h1 h2 h3 h4 h5
  rcases (show i = 1 ∨ i = 2 ∨ i = 3 ∨ i = 4 ∨ i = 5 ∨ i = 6 by omega) with rfl | rfl | rfl | rfl | rfl | rfl <;> rcases (show j = 1 ∨ j = 2 ∨ j = 3 ∨ j = 4 ∨ j = 5 ∨ j = 6 by omega) with rfl | rfl | rfl | rfl | rfl | rfl <;> first | exact absurd rfl h5 | exact va_Nc.of (hgv _ (by repeat (first | exact .head _ | apply List.Mem.tail)))
theorem lw_cc {args : Array Value} (h : ∀ w ∈ caL, w.before args s = true) : ∀ i, 1 ≤ i → i ≤ 6 → va_Nw (.castable (en i) (en i)) s := by
  intro i h1 h2
  rcases (show i = 1 ∨ i = 2 ∨ i = 3 ∨ i = 4 ∨ i = 5 ∨ i = 6 by omega) with rfl | rfl | rfl | rfl | rfl | rfl <;> exact va_Nw.of rfl (h _ (by repeat (first | exact .head _ | apply List.Mem.tail)))
theorem lw_el {g : EG} (hts : ∀ w ∈ lw_tbl, w.before #[Value.ref b] s = true) (hn : ∀ w ∈ ncL, w.before #[Value.ref b] s = true) (hi : ∀ w ∈ isL, w.before #[Value.ref b] s = true) (hK : KK g s) : EL g s.heap.size s :=
  ⟨⟨⟨hK, vx_Zqof (hts _ (wfs_in _ (.head _))) (hts _ (wfs_in _ (.tail _ (.tail _ (.head _))))) (hi _ (.head _)) (fun a h => Nat.not_le.mpr h), vx_Zqof (hts _ (wfs_in _ (.tail _ (.head _)))) (hts _ (wfs_in _ (.tail _ (.tail _ (.head _))))) (hi _ (.tail _ (.head _))) (fun a h => Nat.not_le.mpr h), fun w hw => va_tabs (xwl_kt w hw).2 rfl (hts w (wfx_in w hw))⟩, va_Nw.of rfl (hts _ (wfs_in _ (.tail _ (.tail _ (.tail _ (.head _)))))), va_Nw.of rfl (hts _ (wfs_in _ (.tail _ (.tail _ (.tail _ (.tail _ (.head _)))))))⟩, lw_cc (fun w hw => hts w (wfc_in w hw)), lw_nc hn⟩
end ENV
