/-! ===== from the entry to the loop ===== -/
section LAWRUN
variable {p : Program} {l : Launch} {e : Env} {s : State} {m : MethodId} {below : List Frame} {meth : Method} {c : Code} {Q : State → Prop}
variable {g : EG} {b L : Nat} {xs : Nat → Int32}
theorem lw_dis {ad : Nat → Nat → Nat} {ma : Nat → Nat} {n0 n1 n2 n3 : Nat} (e1 : n1 = n0 + 12) (e2 : n2 = n0 + 37) (e3 : n3 = n0 + 38) (h1 : ∀ K i, i < xcnt σz K → ad K i = n0 ∨ (n0 + 1 ≤ ad K i ∧ ad K i < n0 + 12)) (h2 : ∀ k, mk9 k → ma k = n1 ∨ (n1 + 1 ≤ ma k ∧ ma k < n1 + 25)) : DIS ad σz ma n0 n2 n3 := by
  refine ⟨fun K i hi k hk => ?_, fun K i hi => ⟨?_, ?_⟩, fun k hk => ⟨?_, ?_⟩, by omega, by omega, by omega⟩
  · have a1 := h1 K i hi
    have a2 := h2 k hk
    omega
  · have a1 := h1 K i hi
    omega
  · have a1 := h1 K i hi
    omega
  · have a2 := h2 k hk
    omega
  · have a2 := h2 k hk
    omega
set_option maxHeartbeats 4000000 in
theorem lw_run (F : LAWF g p s m c b L xs) (hst : l.stackTraces = false) (hL : L ≤ 3072) (hK : KK g s) (hAN : AN s) (kend : ∀ (H : Heap) (locs : List Loc) (cells slots : Nat) (ls : Array Slot), va_S (fun q => s.heap.size ≤ q) s.heap H locs → cells ≤ 870031 → slots ≤ 6402042 → W p l e room_1 s m #[Value.ref b] below meth c H locs cells slots Q (F0 m 2884 ls [])) :
    W p l e room_1 s m #[Value.ref b] below meth c s.heap [] 0 0 Q (entryFrame m ([Value.ref b] : List Value).toArray 9) := by
  obtain ⟨hx, hb, hml, hown, hts, hXs, hbl, hEL⟩ := id F
  have hl := lv_entry ([.ref b]) (n := 9) (Nat.le_of_ble_eq_true rfl)
  rw [lg_entry_eq]
  generalize (lg_sl ([.ref b]) ++ List.replicate (9 - (lg_sl ([.ref b])).length) Slot.unset).toArray = ls at hl ⊢
  have hl : lv_has ls 9 [(0, .ref b)] := hl
  refine sp_newB (b0 := s.heap.size) rfl (C := RX6) (T := TX6) (N := 11) (ci := 8) (fs := [.null, .null, .null, .null, .null, .null, .null, .int 0, .int 0, .int 0, .int 0]) hx hb hts wfX6_in tyX6 tyX6_ok hown (hts _ (wfn_in _ (.head _))) (hts _ (wfi_in _ (.tail _ (.tail _ (.tail _ (.tail _ (.tail _ (.tail _ (.tail _ (.tail _ (.head _))))))))))) (hts _ (wfn_in _ (.tail _ (.head _)))) hK rfl (by decide +kernel) (Nat.le_of_ble_eq_true rfl) (Nat.le_of_ble_eq_true rfl) dL_law_0 (fun H1 hP hN2 hN3 => ?_)
  refine lv_dup hx hb dL_law_3 rfl ?_
  refine ctor_call (lo := s.heap.size) (n := 0) (rest := [.ref s.heap.size]) (As := []) ⟨hx, hb, hml, hown, hts⟩ (qX6_init l g s.heap.size s.heap.size (Nat.le_refl _)) (fun U hU hW => ⟨by rw [hU]; exact hP, va_K.moved hW.alike hK, hAN.moved hW⟩) (fun u9 a9 g9 mk q => ⟨q.1, va_K.moved (u := u9) (U := u9.calling g9 mk a9) (Vm.Alike.refl u9.vm) q.2.1, AN.moved (s := u9) (U := u9.calling g9 mk a9) (State.WarmedH.refl u9) q.2.2⟩) gL_law_X6_init rfl rfl rfl (hts _ (wfn_in _ (.tail _ (.head _)))) (hts _ (wfn_in _ (.tail _ (.tail _ (.head _))))) (hts _ (wfn_in _ (.tail _ (.tail _ (.tail _ (.head _)))))) rfl (by decide +kernel) ⟨Nat.le_of_ble_eq_true rfl, Nat.le_of_ble_eq_true rfl⟩ rfl hl.1 rfl (Nat.le_of_ble_eq_true rfl) dL_law_4 ⟨Nat.le_of_ble_eq_true rfl, Nat.le_of_ble_eq_true rfl⟩ (fun z h => nomatch h) (fun H2 locs2 h1 h2 h3 hlc => ?_)
  obtain ⟨ad, hXR, hXA, ha0, had⟩ := h1
  refine lv_astore_n hx hb dL_law_7 rfl hl (by decide) rfl (fun ls hl => ?_)
  refine sp_newB (b0 := H2.size) rfl (C := RX7) (T := TX7) (N := 29) (ci := 9) (fs := [.int 0, .int 0, .int 0, .int 0, .int 0, .null, .null, .null, .null, .null, .null, .null, .null, .null, .null, .null, .null, .null, .null, .null, .null, .null, .null, .null, .null, .null, .null, .null, .null]) hx hb hts wfX7_in tyX7 tyX7_ok hown (hts _ (wfn_in _ (.tail _ (.tail _ (.tail _ (.tail _ (.head _))))))) (hts _ (wfi_in _ (.tail _ (.tail _ (.tail _ (.tail _ (.tail _ (.tail _ (.tail _ (.tail _ (.tail _ (.head _)))))))))))) (hts _ (wfn_in _ (.tail _ (.tail _ (.tail _ (.tail _ (.tail _ (.head _)))))))) hK rfl (by decide +kernel) (Nat.le_of_ble_eq_true rfl) (Nat.le_of_ble_eq_true rfl) dL_law_8 (fun H3 hP3 hz3 ho3 => ?_)
  refine lv_dup hx hb dL_law_11 rfl ?_
  refine ctor_call (lo := s.heap.size) (n := 0) (rest := [.ref H2.size]) (As := []) ⟨hx, hb, hml, hown, hts⟩ (qX7_init l g s.heap.size H2.size (by omega)) (fun U hU hW => ⟨by rw [hU]; exact hP3, va_K.moved hW.alike hK⟩) (fun u9 a9 g9 mk q => ⟨q.1, va_K.moved (u := u9) (U := u9.calling g9 mk a9) (Vm.Alike.refl u9.vm) q.2⟩) gL_law_X7_init rfl rfl rfl (hts _ (wfn_in _ (.tail _ (.tail _ (.tail _ (.tail _ (.tail _ (.head _)))))))) (hts _ (wfn_in _ (.tail _ (.tail _ (.tail _ (.tail _ (.tail _ (.tail _ (.head _))))))))) (hts _ (wfn_in _ (.tail _ (.tail _ (.tail _ (.tail _ (.tail _ (.tail _ (.tail _ (.head _)))))))))) rfl (by decide +kernel) ⟨Nat.le_of_ble_eq_true rfl, Nat.le_of_ble_eq_true rfl⟩ rfl hl.1 rfl (Nat.le_of_ble_eq_true rfl) dL_law_12 ⟨Nat.le_of_ble_eq_true rfl, Nat.le_of_ble_eq_true rfl⟩ hlc (fun H4 locs4 k1 k2 k3 hlc4 => ?_)
  obtain ⟨ma, hMR, hMA, hm0, hma⟩ := k1
  refine lv_astore_n hx hb dL_law_15 rfl hl (by decide) rfl (fun ls hl => ?_)
  refine lv_iconst (v := 1) hx hb dL_law_16 rfl ?_
  refine sp_newL (b0 := H4.size) rfl hx hb (hts _ (wfa_in _ (.tail _ (.tail _ (.head _))))) hK 1 (by decide) (by decide) (by decide) (Nat.le_of_ble_eq_true rfl) (Nat.le_of_ble_eq_true rfl) dL_law_17 (fun H5 hP5 hz5 ho5 => ?_)
  refine lv_astore_n hx hb dL_law_19 rfl hl (by decide) rfl (fun ls hl => ?_)
  refine lv_iconst (v := 1) hx hb dL_law_20 rfl ?_
  refine sp_newa (ty := .double) (atype := .double) (N' := 1) (a0 := (1, .inr (.inr (.inr (.inl (fun _ => 0)))))) hx hb (hts _ (wfa_in _ (.tail _ (.tail _ (.tail _ (.head _)))))) rfl hK 7 rfl (fun cA h => Option.some.inj (h.symm.trans (hK.2 7 _ rfl).2)) (fun cA => rfl) (by decide) (by decide) (by decide) (Nat.le_of_ble_eq_true rfl) (Nat.le_of_ble_eq_true rfl) dL_law_21 (fun H6 hP6 hz6 ho6 => ?_)
  refine lv_astore hx hb dL_law_23 hl (by decide) rfl (fun ls hl => ?_)
  refine lv_iconst (v := 0) hx hb dL_law_25 rfl ?_
  refine lv_istore hx hb dL_law_26 hl (by decide) rfl (fun ls hl => ?_)
  refine W.widen (k := 64 + 20 * 0) (n := 800 + 200 * 0) (by decide) (by decide) ?_
  have hz4 : H4.size = s.heap.size + 37 := by omega
  have hz2 : H2.size = s.heap.size + 12 := by omega
  have hadl : ∀ K i, i < xcnt σz K → ad K i < H2.size := fun K i hi => by
    have := had K i hi
    omega
  have hmal : ∀ k, mk9 k → ma k < H4.size := fun k hk => by
    have := hma k hk
    omega
  have o64 : ∀ q, q < H4.size → H6[q]? = H4[q]? := fun q hq => (ho6 q (by omega)).trans (ho5 q hq)
  have o62 : ∀ q, q < H2.size → H6[q]? = H2[q]? := fun q hq => (o64 q (by omega)).trans ((k3 q (by omega) (by omega)).trans (ho3 q hq))
  have o6 : ∀ q, q < s.heap.size → H6[q]? = s.heap[q]? := fun q hq => (o62 q (by omega)).trans ((h3 q (by omega) (by omega)).trans (hN3 q hq))
  have hJ : LJ g s.heap.size ad ma H4.size H5.size σz uz σz σz uz s.heap H6 locs4 := by
    refine ⟨⟨fun K i hi => (hXR K i hi).kept (o62 _ (hadl K i hi)), hXA⟩, ⟨hMR.kept9 (fun k hk _ => o64 _ (hmal k hk)), hMA⟩, ⟨⟨_, hP5.kept (ho6 _ (by omega))⟩, ⟨_, hP6⟩⟩, lw_dis (n1 := H2.size) (by omega) (by omega) (by omega) (fun K i hi => ?_) (fun k hk => ?_), by omega, fun q hq _ => o6 q hq, hlc4⟩
    · have := had K i hi
      omega
    · have := hma k hk
      omega
  exact lw_loop F hst hL kend 512 0 (by omega) (by omega) H6 locs4 ad σz uz σz ls INVz rfl hJ (by rw [ha0, hm0]; exact hl)
end LAWRUN
set_option maxRecDepth 100000 in
theorem ncL_in : ∀ w ∈ ncL, w ∈ flatC (Jvm.Cond.and given_1 narrow_1) := by decide +kernel
set_option maxRecDepth 100000 in
theorem isL_in : ∀ w ∈ isL, w ∈ flatC (Jvm.Cond.and given_1 narrow_1) := by decide +kernel
theorem lw_flag {l : Launch} (h : l.flags = flags0) : l.stackTraces = false := by
  unfold Launch.stackTraces
  rw [h]
  decide +kernel
