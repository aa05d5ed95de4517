/-! ===== the law's rows: an int of the script, the answer's cell, the end of a case ===== -/
section LAWT0
variable {g : EG} {lo : Nat} {ad : Nat → Nat → Nat} {ma : Nat → Nat} {ou od : Nat} {σc : Sg} {uc : Nat → Int64} {τ σ : Sg} {u : Nat → Int64} {H0 H H1 : Heap} {locs : List Loc}
theorem LJ.hO (h : LJ g lo ad ma ou od σc uc τ σ u H0 H locs) : ¬ xown ad σc ou := fun q => by
  obtain ⟨K, i, hi, e⟩ := q
  exact (h.2.2.2.1.2.1 K i hi).1 e.symm
theorem LJ.hOD (h : LJ g lo ad ma ou od σc uc τ σ u H0 H locs) : ¬ xown ad σc od := fun q => by
  obtain ⟨K, i, hi, e⟩ := q
  exact (h.2.2.2.1.2.1 K i hi).2 e.symm
theorem LJ.mO (h : LJ g lo ad ma ou od σc uc τ σ u H0 H locs) : ¬ mown ma ou := fun q => by
  obtain ⟨k, hm, e⟩ := q
  exact (h.2.2.2.1.2.2.1 k hm).1 e.symm
theorem LJ.mOD (h : LJ g lo ad ma ou od σc uc τ σ u H0 H locs) : ¬ mown ma od := fun q => by
  obtain ⟨k, hm, e⟩ := q
  exact (h.2.2.2.1.2.2.1 k hm).2 e.symm
theorem LJ.lo1 (h : LJ g lo ad ma ou od σc uc τ σ u H0 H locs) : lo ≤ ou := h.2.2.2.1.2.2.2.2.1
theorem LJ.lo2 (h : LJ g lo ad ma ou od σc uc τ σ u H0 H locs) : lo ≤ od := h.2.2.2.1.2.2.2.2.2
theorem ANL.kept {x : Int64} (h : ANL g ou x H) (hk : H1[ou]? = H[ou]?) : ANL g ou x H1 := by
  obtain ⟨f, h1, h2⟩ := h
  exact ⟨f, h1.kept hk, h2⟩
theorem AND.kept {x : UInt64} (h : AND g od x H) (hk : H1[od]? = H[od]?) : AND g od x H1 := by
  obtain ⟨f, h1, h2⟩ := h
  exact ⟨f, h1.kept hk, h2⟩
end LAWT0
theorem ord_self : ∀ d : FP.Core.Datum, d ≠ .nan → FP.Core.order d d = some .eq
  | .nan, h => absurd rfl h
  | .inf s, _ => by simp [FP.Core.order]
  | .fin s a q, _ => by simp [FP.Core.order]
theorem dcmp_self {x : UInt64} (h : vf_n64 x) : FP.dcmp x x = some .eq := by
  have h1 : x.toNat % 2 ^ 63 ≤ 9218868437227405312 := by
    have h2 := UInt64.le_iff_toNat_le.mp h
    rw [UInt64.toNat_and] at h2
    rw [← Nat.and_two_pow_sub_one_eq_mod]
    exact h2
  refine ord_self _ (fun q => ?_)
  unfold FP.Core.decode at q
  split at q
  · rename_i h3
    split at q
    · cases q
    · rename_i h4
      have h3 : x.toNat / 4503599627370496 % 2048 = 2047 := h3
      have h4 : ¬ x.toNat % 4503599627370496 = 0 := h4
      omega
  · split at q <;> cases q
abbrev LOC (ls : Array Slot) (b a0 m0 ou od i : Nat) : Prop := lv_has ls 9 [(5, .int (nI i)), (4, .ref od), (3, .ref ou), (2, .ref m0), (1, .ref a0), (0, .ref b)]
/-- where every case comes to -/
def KNT (p : Program) (l : Launch) (e : Env) (s : State) (m : MethodId) (b : Nat) (below : List Frame) (meth : Method) (c : Code) (cells slots : Nat) (Q : State → Prop) (g : EG) (a0 : Nat) (ma : Nat → Nat) (ou od i : Nat) : Prop :=
  ∀ (H : Heap) (locs : List Loc) (ad : Nat → Nat → Nat) (σ : Sg) (u : Nat → Int64) (τ : Sg) (ls : Array Slot), INV σ → ad 0 0 = a0 → LJ g s.heap.size ad ma ou od σ u τ σ u s.heap H locs → LOC ls b a0 (ma 0) ou od i → W p l e room_1 s m #[Value.ref b] below meth c H locs (cells + 20) (slots + 200) Q (F0 m 2878 ls [])
section LAWT
variable {p : Program} {l : Launch} {e : Env} {R : Room} {s : State} {m : MethodId} {below : List Frame} {meth : Method} {c : Code} {H : Heap} {locs : List Loc} {cells slots : Nat} {Q : State → Prop}
variable {pc : Nat} {ls : Array Slot} {rest : List Value} {g : EG} {b L : Nat} {xs : Nat → Int32} {ad : Nat → Nat → Nat} {ma : Nat → Nat} {ou od : Nat} {σ τ : Sg} {u : Nat → Int64}
theorem lw_arg {i k : Nat} {op : Int} (F : LAWF g p s m c b L xs) (hS : va_S (fun q => s.heap.size ≤ q) s.heap H locs) (hL : L ≤ 3072) (hi : i + 6 ≤ L) (hk : k < 6) (hop : Int32.ofInt op = nI k) (h0 : ls[0]? = some (.val (.ref b))) (h5 : ls[5]? = some (.val (.int (nI i))))
    (d0 : decode cL_law pc = .ok (.aload_n 0, 1)) (d1 : decode cL_law (pc + 1) = .ok (.iload 5, 2)) (d2 : decode cL_law (pc + 3) = .ok (.iconst op, 1)) (d3 : decode cL_law (pc + 4) = .ok (.iadd, 1)) (d4 : decode cL_law (pc + 5) = .ok (.iaload, 1))
    (kk : W p l e R s m #[Value.ref b] below meth c H locs cells slots Q (F0 m (pc + 6) ls (.int (xs (i + k)) :: rest))) : W p l e R s m #[Value.ref b] below meth c H locs cells slots Q (F0 m pc ls rest) := by
  refine lv_aload_n F.1 F.2.1 d0 rfl h0 ?_
  refine lv_iload F.1 F.2.1 d1 h5 ?_
  refine lv_iconst F.1 F.2.1 d2 hop ?_
  refine lv_iadd F.1 F.2.1 d3 ?_
  exact lw_sld F hS (n := i + k) (Int32.ofNat_add i k).symm (by omega) hL d4 kk
theorem lw_ald {x : Int64} (F : LAWF g p s m c b L xs) (hN : ANL g ou x H) (hdg : decode cL_law pc = .ok (.laload, 1))
    (kk : W p l e R s m #[Value.ref b] below meth c H locs cells slots Q (F0 m (pc + 1) ls (.long x :: rest))) : W p l e R s m #[Value.ref b] below meth c H locs cells slots Q (F0 m pc ls (.int 0 :: .ref ou :: rest)) := by
  obtain ⟨f, hf, rfl⟩ := hN
  have hK : KK g s := F.2.2.2.2.2.2.2.1.1.1
  refine va_lald F.1 F.2.1 hK (sp_one hf) 0 2 rfl rfl (vin_dec (by decide +kernel)) hdg ?_
  rw [show (0 : Int32).toNatClampNeg = 0 from ti_0]
  exact kk
theorem lw_aldD {x : UInt64} (F : LAWF g p s m c b L xs) (hN : AND g od x H) (hdg : decode cL_law pc = .ok (.daload, 1))
    (kk : W p l e R s m #[Value.ref b] below meth c H locs cells slots Q (F0 m (pc + 1) ls (.double x :: rest))) : W p l e R s m #[Value.ref b] below meth c H locs cells slots Q (F0 m pc ls (.int 0 :: .ref od :: rest)) := by
  obtain ⟨f, hf, rfl⟩ := hN
  have hK : KK g s := F.2.2.2.2.2.2.2.1.1.1
  refine va_dald F.1 F.2.1 hK (sp_one hf) 0 7 rfl rfl (vin_dec (by decide +kernel)) hdg ?_
  rw [show (0 : Int32).toNatClampNeg = 0 from ti_0]
  exact kk
theorem lw_lcmp {x : Int64} (hexec : p.tables.exec = Jvm.exec) (hb : c.code = cL_law) (hdg : decode cL_law pc = .ok (.lcmp, 1))
    (kk : W p l e R s m #[Value.ref b] below meth c H locs cells slots Q (F0 m (pc + 1) ls (.int 0 :: rest))) : W p l e R s m #[Value.ref b] below meth c H locs cells slots Q (F0 m pc ls (.long x :: .long x :: rest)) := by
  intro T hT X
  obtain ⟨t, a1, b1⟩ := kk T hT X
  refine ⟨t, ?_, b1⟩
  jvm_step X.here [X.here.top, hexec, hb, hdg]
  exact a1
theorem lw_tailI {mc ms i a0 : Nat} {off : Int} {t r : Int32} {x : Int64} (F : LAWF g p s m c b L xs) (hI : INV σ) (ha : ad 0 0 = a0) (hJ : LJ g s.heap.size ad ma ou od σ u τ σ u s.heap H locs) (ht : σ 0 0 = t) (hN : t = 0 → ANL g ou x H) (hr : t = 0 → r.toInt64 = x)
    (hl : lv_has ls 9 [(6, .int t), (5, .int (nI i)), (4, .ref od), (3, .ref ou), (2, .ref (ma 0)), (1, .ref a0), (0, .ref b)])
    (d0 : decode cL_law pc = .ok (.istore 7, 2)) (d1 : decode cL_law (pc + 2) = .ok (.aload_n 2, 1)) (d2 : decode cL_law (pc + 3) = .ok (.invokevirtual 167, 3)) (d3 : decode cL_law (pc + 6) = .ok (.iload 6, 2)) (d4 : decode cL_law (pc + 8) = .ok (.if_icmp .eq 5, 3)) (d5 : decode cL_law (pc + 13) = .ok (.iload 6, 2)) (d6 : decode cL_law (pc + 15) = .ok (.ifCond .ne 15, 3)) (d7 : decode cL_law (pc + 18) = .ok (.aload_n 3, 1)) (d8 : decode cL_law (pc + 19) = .ok (.iconst 0, 1)) (d9 : decode cL_law (pc + 20) = .ok (.laload, 1)) (d10 : decode cL_law (pc + 21) = .ok (.iload 7, 2)) (d11 : decode cL_law (pc + 23) = .ok (.i2l, 1)) (d12 : decode cL_law (pc + 24) = .ok (.lcmp, 1)) (d13 : decode cL_law (pc + 25) = .ok (.ifCond .eq 5, 3)) (d14 : decode cL_law (pc + 30) = .ok (.goto off, 3))
    (hoff : ((pc + 30 : Nat) : Int) + off = ((2878 : Nat) : Int)) (hm : mc ≤ 20 ∧ ms ≤ 200) (hf : cells + 20 ≤ room_1.cells ∧ slots + 200 ≤ room_1.slots) (kk : KNT p l e s m b below meth c cells slots Q g a0 ma ou od i) :
    W p l e room_1 s m #[Value.ref b] below meth c H locs (cells + mc) (slots + ms) Q (F0 m pc ls [.int r]) := by
  subst ht
  have hx := F.1
  have hb := F.2.1
  refine lv_istore hx hb d0 hl (by decide) rfl (fun ls hl => ?_)
  refine lv_aload_n hx hb d1 rfl (lv_at hl 5 rfl) ?_
  refine lw_thr (tt := 0) (n := 0) (As := []) (rest := []) (v := [.int (σ 0 0)]) F hJ (k_thrown l g ma σ u) gL_law_X7_thrown rfl rfl rfl (by decide +kernel) ⟨Nat.le_of_ble_eq_true rfl, Nat.le_of_ble_eq_true rfl⟩ rfl hl.1 rfl (Nat.le_of_ble_eq_true rfl) d2 ⟨by omega, by omega⟩ rfl ?_
  refine lv_iload hx hb d3 (lv_at hl 1 rfl) ?_
  refine lv_icmp_eq (tgt := pc + 13) hx hb d4 (by omega) (fun _ => ?_) (fun q => absurd rfl q)
  refine lv_iload hx hb d5 (lv_at hl 1 rfl) ?_
  have fin : W p l e room_1 s m #[Value.ref b] below meth c H locs (cells + mc) (slots + ms) Q (F0 m (pc + 30) ls []) := by
    refine lv_goto (tgt := 2878) hx hb d14 hoff ?_
    refine W.widen (k := cells + 20) (n := slots + 200) (by omega) (by omega) ?_
    exact kk H locs ad σ u τ ls hI ha hJ (lv_sub hl [2, 3, 4, 5, 6, 7] rfl)
  refine lv_if_ne (tgt := pc + 30) hx hb d6 (by omega) (fun _ => fin) (fun h0 => ?_)
  refine lv_aload_n hx hb d7 rfl (lv_at hl 4 rfl) ?_
  refine lv_iconst (v := 0) hx hb d8 rfl ?_
  refine lw_ald F (hN h0) d9 ?_
  refine lv_iload hx hb d10 (lv_at hl 0 rfl) ?_
  refine lv_i2l hx hb d11 (hr h0) ?_
  refine lw_lcmp hx hb d12 ?_
  exact lv_if_eq (tgt := pc + 30) hx hb d13 (by omega) (fun _ => fin) (fun q => absurd rfl q)
theorem lw_tailL {mc ms i a0 : Nat} {off : Int} {t : Int32} {r x : Int64} (F : LAWF g p s m c b L xs) (hI : INV σ) (ha : ad 0 0 = a0) (hJ : LJ g s.heap.size ad ma ou od σ u τ σ u s.heap H locs) (ht : σ 0 0 = t) (hN : t = 0 → ANL g ou x H) (hr : t = 0 → r = x)
    (hl : lv_has ls 9 [(6, .int t), (5, .int (nI i)), (4, .ref od), (3, .ref ou), (2, .ref (ma 0)), (1, .ref a0), (0, .ref b)])
    (d0 : decode cL_law pc = .ok (.lstore 7, 2)) (d1 : decode cL_law (pc + 2) = .ok (.aload_n 2, 1)) (d2 : decode cL_law (pc + 3) = .ok (.invokevirtual 167, 3)) (d3 : decode cL_law (pc + 6) = .ok (.iload 6, 2)) (d4 : decode cL_law (pc + 8) = .ok (.if_icmp .eq 5, 3)) (d5 : decode cL_law (pc + 13) = .ok (.iload 6, 2)) (d6 : decode cL_law (pc + 15) = .ok (.ifCond .ne 14, 3)) (d7 : decode cL_law (pc + 18) = .ok (.aload_n 3, 1)) (d8 : decode cL_law (pc + 19) = .ok (.iconst 0, 1)) (d9 : decode cL_law (pc + 20) = .ok (.laload, 1)) (d10 : decode cL_law (pc + 21) = .ok (.lload 7, 2)) (d12 : decode cL_law (pc + 23) = .ok (.lcmp, 1)) (d13 : decode cL_law (pc + 24) = .ok (.ifCond .eq 5, 3)) (d14 : decode cL_law (pc + 29) = .ok (.goto off, 3))
    (hoff : ((pc + 29 : Nat) : Int) + off = ((2878 : Nat) : Int)) (hm : mc ≤ 20 ∧ ms ≤ 200) (hf : cells + 20 ≤ room_1.cells ∧ slots + 200 ≤ room_1.slots) (kk : KNT p l e s m b below meth c cells slots Q g a0 ma ou od i) :
    W p l e room_1 s m #[Value.ref b] below meth c H locs (cells + mc) (slots + ms) Q (F0 m pc ls [.long r]) := by
  subst ht
  have hx := F.1
  have hb := F.2.1
  refine lv_lstore hx hb d0 hl (by decide) rfl (fun ls hl => ?_)
  refine lv_aload_n hx hb d1 rfl (lv_at hl 5 rfl) ?_
  refine lw_thr (tt := 0) (n := 0) (As := []) (rest := []) (v := [.int (σ 0 0)]) F hJ (k_thrown l g ma σ u) gL_law_X7_thrown rfl rfl rfl (by decide +kernel) ⟨Nat.le_of_ble_eq_true rfl, Nat.le_of_ble_eq_true rfl⟩ rfl hl.1 rfl (Nat.le_of_ble_eq_true rfl) d2 ⟨by omega, by omega⟩ rfl ?_
  refine lv_iload hx hb d3 (lv_at hl 1 rfl) ?_
  refine lv_icmp_eq (tgt := pc + 13) hx hb d4 (by omega) (fun _ => ?_) (fun q => absurd rfl q)
  refine lv_iload hx hb d5 (lv_at hl 1 rfl) ?_
  have fin : W p l e room_1 s m #[Value.ref b] below meth c H locs (cells + mc) (slots + ms) Q (F0 m (pc + 29) ls []) := by
    refine lv_goto (tgt := 2878) hx hb d14 hoff ?_
    refine W.widen (k := cells + 20) (n := slots + 200) (by omega) (by omega) ?_
    exact kk H locs ad σ u τ ls hI ha hJ (lv_sub hl [2, 3, 4, 5, 6, 7] rfl)
  refine lv_if_ne (tgt := pc + 29) hx hb d6 (by omega) (fun _ => fin) (fun h0 => ?_)
  refine lv_aload_n hx hb d7 rfl (lv_at hl 4 rfl) ?_
  refine lv_iconst (v := 0) hx hb d8 rfl ?_
  refine lw_ald F (hN h0) d9 ?_
  refine lv_lload hx hb d10 (lv_at hl 0 rfl) ?_
  rw [← hr h0]
  refine lw_lcmp hx hb d12 ?_
  exact lv_if_eq (tgt := pc + 29) hx hb d13 (by omega) (fun _ => fin) (fun q => absurd rfl q)
theorem lw_tailZ {mc ms i a0 : Nat} {off : Int} {t r : Int32} {x : Int64} (F : LAWF g p s m c b L xs) (hI : INV σ) (ha : ad 0 0 = a0) (hJ : LJ g s.heap.size ad ma ou od σ u τ σ u s.heap H locs) (ht : σ 0 0 = t) (hN : t = 0 → ANL g ou x H) (hr : t = 0 → (r = 0 → x = 0) ∧ (¬ r = 0 → x = 1))
    (hl : lv_has ls 9 [(6, .int t), (5, .int (nI i)), (4, .ref od), (3, .ref ou), (2, .ref (ma 0)), (1, .ref a0), (0, .ref b)])
    (d0 : decode cL_law pc = .ok (.istore 7, 2)) (d1 : decode cL_law (pc + 2) = .ok (.aload_n 2, 1)) (d2 : decode cL_law (pc + 3) = .ok (.invokevirtual 167, 3)) (d3 : decode cL_law (pc + 6) = .ok (.iload 6, 2)) (d4 : decode cL_law (pc + 8) = .ok (.if_icmp .eq 5, 3)) (d5 : decode cL_law (pc + 13) = .ok (.iload 6, 2)) (d6 : decode cL_law (pc + 15) = .ok (.ifCond .ne 22, 3)) (d7 : decode cL_law (pc + 18) = .ok (.aload_n 3, 1)) (d8 : decode cL_law (pc + 19) = .ok (.iconst 0, 1)) (d9 : decode cL_law (pc + 20) = .ok (.laload, 1)) (d10 : decode cL_law (pc + 21) = .ok (.iload 7, 2)) (e0 : decode cL_law (pc + 23) = .ok (.ifCond .eq 7, 3)) (e1 : decode cL_law (pc + 26) = .ok (.lconst 1, 1)) (e2 : decode cL_law (pc + 27) = .ok (.goto 4, 3)) (e3 : decode cL_law (pc + 30) = .ok (.lconst 0, 1)) (d12 : decode cL_law (pc + 31) = .ok (.lcmp, 1)) (d13 : decode cL_law (pc + 32) = .ok (.ifCond .eq 5, 3)) (d14 : decode cL_law (pc + 37) = .ok (.goto off, 3))
    (hoff : ((pc + 37 : Nat) : Int) + off = ((2878 : Nat) : Int)) (hm : mc ≤ 20 ∧ ms ≤ 200) (hf : cells + 20 ≤ room_1.cells ∧ slots + 200 ≤ room_1.slots) (kk : KNT p l e s m b below meth c cells slots Q g a0 ma ou od i) :
    W p l e room_1 s m #[Value.ref b] below meth c H locs (cells + mc) (slots + ms) Q (F0 m pc ls [.int r]) := by
  subst ht
  have hx := F.1
  have hb := F.2.1
  refine lv_istore hx hb d0 hl (by decide) rfl (fun ls hl => ?_)
  refine lv_aload_n hx hb d1 rfl (lv_at hl 5 rfl) ?_
  refine lw_thr (tt := 0) (n := 0) (As := []) (rest := []) (v := [.int (σ 0 0)]) F hJ (k_thrown l g ma σ u) gL_law_X7_thrown rfl rfl rfl (by decide +kernel) ⟨Nat.le_of_ble_eq_true rfl, Nat.le_of_ble_eq_true rfl⟩ rfl hl.1 rfl (Nat.le_of_ble_eq_true rfl) d2 ⟨by omega, by omega⟩ rfl ?_
  refine lv_iload hx hb d3 (lv_at hl 1 rfl) ?_
  refine lv_icmp_eq (tgt := pc + 13) hx hb d4 (by omega) (fun _ => ?_) (fun q => absurd rfl q)
  refine lv_iload hx hb d5 (lv_at hl 1 rfl) ?_
  have fin : W p l e room_1 s m #[Value.ref b] below meth c H locs (cells + mc) (slots + ms) Q (F0 m (pc + 37) ls []) := by
    refine lv_goto (tgt := 2878) hx hb d14 hoff ?_
    refine W.widen (k := cells + 20) (n := slots + 200) (by omega) (by omega) ?_
    exact kk H locs ad σ u τ ls hI ha hJ (lv_sub hl [2, 3, 4, 5, 6, 7] rfl)
  refine lv_if_ne (tgt := pc + 37) hx hb d6 (by omega) (fun _ => fin) (fun h0 => ?_)
  refine lv_aload_n hx hb d7 rfl (lv_at hl 4 rfl) ?_
  refine lv_iconst (v := 0) hx hb d8 rfl ?_
  refine lw_ald F (hN h0) d9 ?_
  refine lv_iload hx hb d10 (lv_at hl 0 rfl) ?_
  refine lv_if_eq (tgt := pc + 30) hx hb e0 (by omega) (fun q0 => ?_) (fun q0 => ?_)
  · refine lv_lconst (v := 0) hx hb e3 rfl ?_
    rw [(hr h0).1 q0]
    refine lw_lcmp hx hb d12 ?_
    exact lv_if_eq (tgt := pc + 37) hx hb d13 (by omega) (fun _ => fin) (fun q => absurd rfl q)
  · refine lv_lconst (v := 1) hx hb e1 rfl ?_
    refine lv_goto (tgt := pc + 31) hx hb e2 (by omega) ?_
    rw [(hr h0).2 q0]
    refine lw_lcmp hx hb d12 ?_
    exact lv_if_eq (tgt := pc + 37) hx hb d13 (by omega) (fun _ => fin) (fun q => absurd rfl q)
theorem bz01 {z : Prop} [Decidable z] {x : Int64} (h : (if z then (1 : Int32) else 0).toInt64 = x) : ((if z then (1 : Int32) else 0) = 0 → x = 0) ∧ (¬ (if z then (1 : Int32) else 0) = 0 → x = 1) := by
  subst h
  by_cases q : z
  · rw [if_pos q]; exact ⟨fun w => absurd w (by decide), fun _ => rfl⟩
  · rw [if_neg q]; exact ⟨fun _ => rfl, fun w => absurd rfl w⟩
theorem lw_tailF {mc ms i a0 : Nat} {off : Int} {t : Int32} {r : UInt32} (F : LAWF g p s m c b L xs) (hI : INV σ) (ha : ad 0 0 = a0) (hJ : LJ g s.heap.size ad ma ou od σ u τ σ u s.heap H locs) (ht : σ 0 0 = t) (hN : t = 0 → AND g od (FP.f2d r) H) (hr : t = 0 → vf_n64 (FP.f2d r))
    (hl : lv_has ls 9 [(6, .int t), (5, .int (nI i)), (4, .ref od), (3, .ref ou), (2, .ref (ma 0)), (1, .ref a0), (0, .ref b)])
    (d0 : decode cL_law pc = .ok (.fstore 7, 2)) (d1 : decode cL_law (pc + 2) = .ok (.aload_n 2, 1)) (d2 : decode cL_law (pc + 3) = .ok (.invokevirtual 167, 3)) (d3 : decode cL_law (pc + 6) = .ok (.iload 6, 2)) (d4 : decode cL_law (pc + 8) = .ok (.if_icmp .eq 5, 3)) (d5 : decode cL_law (pc + 13) = .ok (.iload 6, 2)) (d6 : decode cL_law (pc + 15) = .ok (.ifCond .ne 36, 3)) (d7 : decode cL_law (pc + 18) = .ok (.aload 4, 2)) (d8 : decode cL_law (pc + 20) = .ok (.iconst 0, 1)) (d9 : decode cL_law (pc + 21) = .ok (.daload, 1)) (d10 : decode cL_law (pc + 22) = .ok (.fload 7, 2)) (d11 : decode cL_law (pc + 24) = .ok (.f2d, 1)) (d12 : decode cL_law (pc + 25) = .ok (.dcmp .l, 1)) (d13 : decode cL_law (pc + 26) = .ok (.ifCond .eq 25, 3)) (d14 : decode cL_law (pc + 51) = .ok (.goto off, 3))
    (hoff : ((pc + 51 : Nat) : Int) + off = ((2878 : Nat) : Int)) (hm : mc ≤ 20 ∧ ms ≤ 200) (hf : cells + 20 ≤ room_1.cells ∧ slots + 200 ≤ room_1.slots) (kk : KNT p l e s m b below meth c cells slots Q g a0 ma ou od i) :
    W p l e room_1 s m #[Value.ref b] below meth c H locs (cells + mc) (slots + ms) Q (F0 m pc ls [.float r]) := by
  subst ht
  have hx := F.1
  have hb := F.2.1
  refine lv_fstore hx hb d0 hl (by decide) rfl (fun ls hl => ?_)
  refine lv_aload_n hx hb d1 rfl (lv_at hl 5 rfl) ?_
  refine lw_thr (tt := 0) (n := 0) (As := []) (rest := []) (v := [.int (σ 0 0)]) F hJ (k_thrown l g ma σ u) gL_law_X7_thrown rfl rfl rfl (by decide +kernel) ⟨Nat.le_of_ble_eq_true rfl, Nat.le_of_ble_eq_true rfl⟩ rfl hl.1 rfl (Nat.le_of_ble_eq_true rfl) d2 ⟨by omega, by omega⟩ rfl ?_
  refine lv_iload hx hb d3 (lv_at hl 1 rfl) ?_
  refine lv_icmp_eq (tgt := pc + 13) hx hb d4 (by omega) (fun _ => ?_) (fun q => absurd rfl q)
  refine lv_iload hx hb d5 (lv_at hl 1 rfl) ?_
  have fin : W p l e room_1 s m #[Value.ref b] below meth c H locs (cells + mc) (slots + ms) Q (F0 m (pc + 51) ls []) := by
    refine lv_goto (tgt := 2878) hx hb d14 hoff ?_
    refine W.widen (k := cells + 20) (n := slots + 200) (by omega) (by omega) ?_
    exact kk H locs ad σ u τ ls hI ha hJ (lv_sub hl [2, 3, 4, 5, 6, 7] rfl)
  refine lv_if_ne (tgt := pc + 51) hx hb d6 (by omega) (fun _ => fin) (fun h0 => ?_)
  refine lv_aload hx hb d7 (lv_at hl 3 rfl) ?_
  refine lv_iconst (v := 0) hx hb d8 rfl ?_
  refine lw_aldD F (hN h0) d9 ?_
  refine lv_fload hx hb d10 (lv_at hl 0 rfl) ?_
  refine lv_f2d hx hb d11 (hr h0) ?_
  refine lv_dcmp hx hb d12 ?_
  rw [dcmp_self (hr h0)]
  exact lv_if_eq (tgt := pc + 51) hx hb d13 (by omega) (fun _ => fin) (fun q => absurd rfl q)
theorem lw_tailD {mc ms i a0 : Nat} {off : Int} {t : Int32} {r : UInt64} (F : LAWF g p s m c b L xs) (hI : INV σ) (ha : ad 0 0 = a0) (hJ : LJ g s.heap.size ad ma ou od σ u τ σ u s.heap H locs) (ht : σ 0 0 = t) (hN : t = 0 → AND g od r H) (hr : t = 0 → vf_n64 r)
    (hl : lv_has ls 9 [(6, .int t), (5, .int (nI i)), (4, .ref od), (3, .ref ou), (2, .ref (ma 0)), (1, .ref a0), (0, .ref b)])
    (d0 : decode cL_law pc = .ok (.dstore 7, 2)) (d1 : decode cL_law (pc + 2) = .ok (.aload_n 2, 1)) (d2 : decode cL_law (pc + 3) = .ok (.invokevirtual 167, 3)) (d3 : decode cL_law (pc + 6) = .ok (.iload 6, 2)) (d4 : decode cL_law (pc + 8) = .ok (.if_icmp .eq 5, 3)) (d5 : decode cL_law (pc + 13) = .ok (.iload 6, 2)) (d6 : decode cL_law (pc + 15) = .ok (.ifCond .ne 35, 3)) (d7 : decode cL_law (pc + 18) = .ok (.aload 4, 2)) (d8 : decode cL_law (pc + 20) = .ok (.iconst 0, 1)) (d9 : decode cL_law (pc + 21) = .ok (.daload, 1)) (d10 : decode cL_law (pc + 22) = .ok (.dload 7, 2)) (d12 : decode cL_law (pc + 24) = .ok (.dcmp .l, 1)) (d13 : decode cL_law (pc + 25) = .ok (.ifCond .eq 25, 3)) (d14 : decode cL_law (pc + 50) = .ok (.goto off, 3))
    (hoff : ((pc + 50 : Nat) : Int) + off = ((2878 : Nat) : Int)) (hm : mc ≤ 20 ∧ ms ≤ 200) (hf : cells + 20 ≤ room_1.cells ∧ slots + 200 ≤ room_1.slots) (kk : KNT p l e s m b below meth c cells slots Q g a0 ma ou od i) :
    W p l e room_1 s m #[Value.ref b] below meth c H locs (cells + mc) (slots + ms) Q (F0 m pc ls [.double r]) := by
  subst ht
  have hx := F.1
  have hb := F.2.1
  refine lv_dstore hx hb d0 hl (by decide) rfl (fun ls hl => ?_)
  refine lv_aload_n hx hb d1 rfl (lv_at hl 5 rfl) ?_
  refine lw_thr (tt := 0) (n := 0) (As := []) (rest := []) (v := [.int (σ 0 0)]) F hJ (k_thrown l g ma σ u) gL_law_X7_thrown rfl rfl rfl (by decide +kernel) ⟨Nat.le_of_ble_eq_true rfl, Nat.le_of_ble_eq_true rfl⟩ rfl hl.1 rfl (Nat.le_of_ble_eq_true rfl) d2 ⟨by omega, by omega⟩ rfl ?_
  refine lv_iload hx hb d3 (lv_at hl 1 rfl) ?_
  refine lv_icmp_eq (tgt := pc + 13) hx hb d4 (by omega) (fun _ => ?_) (fun q => absurd rfl q)
  refine lv_iload hx hb d5 (lv_at hl 1 rfl) ?_
  have fin : W p l e room_1 s m #[Value.ref b] below meth c H locs (cells + mc) (slots + ms) Q (F0 m (pc + 50) ls []) := by
    refine lv_goto (tgt := 2878) hx hb d14 hoff ?_
    refine W.widen (k := cells + 20) (n := slots + 200) (by omega) (by omega) ?_
    exact kk H locs ad σ u τ ls hI ha hJ (lv_sub hl [2, 3, 4, 5, 6, 7] rfl)
  refine lv_if_ne (tgt := pc + 50) hx hb d6 (by omega) (fun _ => fin) (fun h0 => ?_)
  refine lv_aload hx hb d7 (lv_at hl 3 rfl) ?_
  refine lv_iconst (v := 0) hx hb d8 rfl ?_
  refine lw_aldD F (hN h0) d9 ?_
  refine lv_dload hx hb d10 (lv_at hl 0 rfl) ?_
  refine lv_dcmp hx hb d12 ?_
  rw [dcmp_self (hr h0)]
  exact lv_if_eq (tgt := pc + 50) hx hb d13 (by omega) (fun _ => fin) (fun q => absurd rfl q)
end LAWT
