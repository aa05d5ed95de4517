/-! ===== the law, case by case ===== -/
section LAWC
variable {p : Program} {l : Launch} {e : Env} {s : State} {m : MethodId} {below : List Frame} {meth : Method} {c : Code} {H : Heap} {locs : List Loc} {cells slots : Nat} {Q : State → Prop}
variable {ls : Array Slot} {g : EG} {b L : Nat} {xs : Nat → Int32} {ad : Nat → Nat → Nat} {ma : Nat → Nat} {ou od : Nat} {σ τ : Sg} {u : Nat → Int64} {i : Nat}
set_option maxHeartbeats 4000000 in
theorem lc_recipes (F : LAWF g p s m c b L xs) (hst : l.stackTraces = false) (hL : L ≤ 3072) (hi : i + 6 ≤ L) (hI : INV σ) (hJ : LJ g s.heap.size ad ma ou od σ u τ σ u s.heap H locs) (hf : cells + 20 ≤ room_1.cells ∧ slots + 200 ≤ room_1.slots) (hl : LOC ls b (ad 0 0) (ma 0) ou od i) (kk : KNT p l e s m b below meth c cells slots Q g (ad 0 0) ma ou od i) : W p l e room_1 s m #[Value.ref b] below meth c H locs cells slots Q (F0 m 1691 ls []) := by
  have hx := F.1
  have hb := F.2.1
  refine lv_aload_n hx hb dL_law_1691 rfl (lv_at hl 4 rfl) ?_
  refine lw_cls (n := 0) (As := []) (rest := []) (v := [.int (σ 1 0)]) F hJ (qX6_recipes l g ad σ u τ) gL_law_X6_recipes rfl rfl rfl (by decide +kernel) ⟨Nat.le_of_ble_eq_true rfl, Nat.le_of_ble_eq_true rfl⟩ rfl hl.1 rfl (Nat.le_of_ble_eq_true rfl) dL_law_1692 ⟨by omega, by omega⟩ rfl ?_
  refine lv_aload_n hx hb dL_law_1695 rfl (lv_at hl 3 rfl) ?_
  refine lw_thr (tt := 0) (n := 0) (As := []) (rest := [.int (σ 1 0)]) (v := [.int (σ 1 0)]) F hJ (k_recipes l g ma σ u) gL_law_X7_recipes rfl rfl rfl (by decide +kernel) ⟨Nat.le_of_ble_eq_true rfl, Nat.le_of_ble_eq_true rfl⟩ rfl hl.1 rfl (Nat.le_of_ble_eq_true rfl) dL_law_1696 ⟨by omega, by omega⟩ rfl ?_
  refine lv_icmp_eq (tgt := 2878) hx hb dL_law_1699 (by decide) (fun _ => ?_) (fun q => absurd rfl q)
  refine W.widen (k := cells + 20) (n := slots + 200) (by omega) (by omega) ?_
  exact kk H locs ad σ u τ ls hI rfl hJ hl
set_option maxHeartbeats 4000000 in
theorem lc_lots (F : LAWF g p s m c b L xs) (hst : l.stackTraces = false) (hL : L ≤ 3072) (hi : i + 6 ≤ L) (hI : INV σ) (hJ : LJ g s.heap.size ad ma ou od σ u τ σ u s.heap H locs) (hf : cells + 20 ≤ room_1.cells ∧ slots + 200 ≤ room_1.slots) (hl : LOC ls b (ad 0 0) (ma 0) ou od i) (kk : KNT p l e s m b below meth c cells slots Q g (ad 0 0) ma ou od i) : W p l e room_1 s m #[Value.ref b] below meth c H locs cells slots Q (F0 m 1704 ls []) := by
  have hx := F.1
  have hb := F.2.1
  refine lv_aload_n hx hb dL_law_1704 rfl (lv_at hl 4 rfl) ?_
  refine lw_cls (n := 0) (As := []) (rest := []) (v := [.int (σ 3 0)]) F hJ (qX6_lots l g ad σ u τ) gL_law_X6_lots rfl rfl rfl (by decide +kernel) ⟨Nat.le_of_ble_eq_true rfl, Nat.le_of_ble_eq_true rfl⟩ rfl hl.1 rfl (Nat.le_of_ble_eq_true rfl) dL_law_1705 ⟨by omega, by omega⟩ rfl ?_
  refine lv_aload_n hx hb dL_law_1708 rfl (lv_at hl 3 rfl) ?_
  refine lw_thr (tt := 0) (n := 0) (As := []) (rest := [.int (σ 3 0)]) (v := [.int (σ 3 0)]) F hJ (k_lots l g ma σ u) gL_law_X7_lots rfl rfl rfl (by decide +kernel) ⟨Nat.le_of_ble_eq_true rfl, Nat.le_of_ble_eq_true rfl⟩ rfl hl.1 rfl (Nat.le_of_ble_eq_true rfl) dL_law_1709 ⟨by omega, by omega⟩ rfl ?_
  refine lv_icmp_eq (tgt := 2878) hx hb dL_law_1712 (by decide) (fun _ => ?_) (fun q => absurd rfl q)
  refine W.widen (k := cells + 20) (n := slots + 200) (by omega) (by omega) ?_
  exact kk H locs ad σ u τ ls hI rfl hJ hl
set_option maxHeartbeats 4000000 in
theorem lc_stateOf (F : LAWF g p s m c b L xs) (hst : l.stackTraces = false) (hL : L ≤ 3072) (hi : i + 6 ≤ L) (hI : INV σ) (hJ : LJ g s.heap.size ad ma ou od σ u τ σ u s.heap H locs) (hf : cells + 20 ≤ room_1.cells ∧ slots + 200 ≤ room_1.slots) (hl : LOC ls b (ad 0 0) (ma 0) ou od i) (kk : KNT p l e s m b below meth c cells slots Q g (ad 0 0) ma ou od i) : W p l e room_1 s m #[Value.ref b] below meth c H locs cells slots Q (F0 m 1717 ls []) := by
  have hx := F.1
  have hb := F.2.1
  refine lv_aload_n hx hb dL_law_1717 rfl (lv_at hl 4 rfl) ?_
  refine lw_arg (k := 1) F hJ.2.2.2.2 hL hi (by decide) rfl (lv_at hl 5 rfl) (lv_at hl 0 rfl) dL_law_1718 dL_law_1719 dL_law_1721 dL_law_1722 dL_law_1723 ?_
  refine lv_aload_n hx hb dL_law_1724 rfl (lv_at hl 2 rfl) ?_
  refine lw_wrap (oc := ou) (n := 3) (t := (tL σ (xs (i + 1)))) (Fσ := (up σ 0 0 (tL σ (xs (i + 1))))) (Fu := u) (N := ANL g ou ((σ 21 (ti (xs (i + 1)))).toInt64)) (As := [.ref (ad 0 0), .int (xs (i + 1)), .ref ou]) (rest := []) F hJ (qL_stateOf l hst g s.heap.size ad σ u τ hI hJ.1.2 ou hJ.lo1 hJ.hO (xs (i + 1))) (fun U hU hE => ⟨by rw [hU]; exact hJ.1.1, by rw [hU]; exact hJ.2.2.1.1, hE⟩) (fun U a g9 mk q => ⟨q.1, q.2.1, q.2.2.calling g9 mk a⟩) (fun H1 L1 h1 h2 h3 => pw_ro (SMR.u0 _ _) hJ h1 h2 h3) gL_law_L_stateOf rfl rfl rfl (by decide +kernel) ⟨Nat.le_of_ble_eq_true rfl, Nat.le_of_ble_eq_true rfl⟩ rfl hl.1 rfl (Nat.le_of_ble_eq_true rfl) dL_law_1725 ⟨by omega, by omega⟩ (fun H1 locs1 hP => ?_)
  obtain ⟨ad1, τ1, ha1, hJ1, hN1⟩ := hP
  refine lv_istore hx hb dL_law_1728 hl (by decide) rfl (fun ls hl => ?_)
  refine lv_aload_n hx hb dL_law_1730 rfl (lv_at hl 4 rfl) ?_
  refine lw_arg (k := 1) F hJ1.2.2.2.2 hL hi (by decide) rfl (lv_at hl 6 rfl) (lv_at hl 1 rfl) dL_law_1731 dL_law_1732 dL_law_1734 dL_law_1735 dL_law_1736 ?_
  refine lw_mod (H0 := s.heap) (n := 1) (As := [.int (xs (i + 1))]) (rest := []) (v := [.int (if okL σ (xs (i + 1)) then σ 21 (ti (xs (i + 1))) else 119)]) F hJ1 (k_stateOf l g s.heap.size ma hJ1.2.1.2 σ u (xs (i + 1)) hI) gL_law_X7_stateOf rfl rfl rfl (by decide +kernel) ⟨Nat.le_of_ble_eq_true rfl, Nat.le_of_ble_eq_true rfl⟩ rfl hl.1 rfl (Nat.le_of_ble_eq_true rfl) dL_law_1737 ⟨by omega, by omega⟩ rfl (fun H2 locs2 hJ2 hk => ?_)
  exact lw_tailI F (i_stateOf hI (xs (i + 1))) ha1 hJ2 (z_stateOf σ (xs (i + 1))) (fun h => (hN1 h).kept (hk _ hJ1.mO)) (fun h => r_stateOf hI (xs (i + 1)) h) hl dL_law_1740 dL_law_1742 dL_law_1743 dL_law_1746 dL_law_1748 dL_law_1753 dL_law_1755 dL_law_1758 dL_law_1759 dL_law_1760 dL_law_1761 dL_law_1763 dL_law_1764 dL_law_1765 dL_law_1770 (by decide) ⟨by decide, by decide⟩ hf kk
set_option maxHeartbeats 4000000 in
theorem lc_shadeOf (F : LAWF g p s m c b L xs) (hst : l.stackTraces = false) (hL : L ≤ 3072) (hi : i + 6 ≤ L) (hI : INV σ) (hJ : LJ g s.heap.size ad ma ou od σ u τ σ u s.heap H locs) (hf : cells + 20 ≤ room_1.cells ∧ slots + 200 ≤ room_1.slots) (hl : LOC ls b (ad 0 0) (ma 0) ou od i) (kk : KNT p l e s m b below meth c cells slots Q g (ad 0 0) ma ou od i) : W p l e room_1 s m #[Value.ref b] below meth c H locs cells slots Q (F0 m 1773 ls []) := by
  have hx := F.1
  have hb := F.2.1
  refine lv_aload_n hx hb dL_law_1773 rfl (lv_at hl 4 rfl) ?_
  refine lw_arg (k := 1) F hJ.2.2.2.2 hL hi (by decide) rfl (lv_at hl 5 rfl) (lv_at hl 0 rfl) dL_law_1774 dL_law_1775 dL_law_1777 dL_law_1778 dL_law_1779 ?_
  refine lw_arg (k := 2) F hJ.2.2.2.2 hL hi (by decide) rfl (lv_at hl 5 rfl) (lv_at hl 0 rfl) dL_law_1780 dL_law_1781 dL_law_1783 dL_law_1784 dL_law_1785 ?_
  refine lv_aload_n hx hb dL_law_1786 rfl (lv_at hl 2 rfl) ?_
  refine lw_wrap (oc := ou) (n := 4) (t := (t_shadeOf σ (xs (i + 1)) (xs (i + 2)))) (Fσ := (up σ 0 0 (t_shadeOf σ (xs (i + 1)) (xs (i + 2))))) (Fu := u) (N := ANL g ou ((σ 16 (ti (3 * (xs (i + 1)) + (xs (i + 2))))).toInt64)) (As := [.ref (ad 0 0), .int (xs (i + 1)), .int (xs (i + 2)), .ref ou]) (rest := []) F hJ (qL_shadeOf l hst g s.heap.size ad σ u τ hI hJ.1.2 ou hJ.lo1 hJ.hO (xs (i + 1)) (xs (i + 2))) (fun U hU hE => ⟨by rw [hU]; exact hJ.1.1, by rw [hU]; exact hJ.2.2.1.1, hE⟩) (fun U a g9 mk q => ⟨q.1, q.2.1, q.2.2.calling g9 mk a⟩) (fun H1 L1 h1 h2 h3 => pw_ro (SMR.u0 _ _) hJ h1 h2 h3) gL_law_L_shadeOf rfl rfl rfl (by decide +kernel) ⟨Nat.le_of_ble_eq_true rfl, Nat.le_of_ble_eq_true rfl⟩ rfl hl.1 rfl (Nat.le_of_ble_eq_true rfl) dL_law_1787 ⟨by omega, by omega⟩ (fun H1 locs1 hP => ?_)
  obtain ⟨ad1, τ1, ha1, hJ1, hN1⟩ := hP
  refine lv_istore hx hb dL_law_1790 hl (by decide) rfl (fun ls hl => ?_)
  refine lv_aload_n hx hb dL_law_1792 rfl (lv_at hl 4 rfl) ?_
  refine lw_arg (k := 1) F hJ1.2.2.2.2 hL hi (by decide) rfl (lv_at hl 6 rfl) (lv_at hl 1 rfl) dL_law_1793 dL_law_1794 dL_law_1796 dL_law_1797 dL_law_1798 ?_
  refine lw_arg (k := 2) F hJ1.2.2.2.2 hL hi (by decide) rfl (lv_at hl 6 rfl) (lv_at hl 1 rfl) dL_law_1799 dL_law_1800 dL_law_1802 dL_law_1803 dL_law_1804 ?_
  refine lw_mod (H0 := s.heap) (n := 2) (As := [.int (xs (i + 1)), .int (xs (i + 2))]) (rest := []) (v := [.int (if okW σ (xs (i + 1)) ∧ okD (xs (i + 2)) then σ 16 (ti (3 * (xs (i + 1)) + (xs (i + 2)))) else 0)]) F hJ1 (k_shadeOf l g s.heap.size ma hJ1.2.1.2 σ u (xs (i + 1)) (xs (i + 2)) hI) gL_law_X7_shadeOf rfl rfl rfl (by decide +kernel) ⟨Nat.le_of_ble_eq_true rfl, Nat.le_of_ble_eq_true rfl⟩ rfl hl.1 rfl (Nat.le_of_ble_eq_true rfl) dL_law_1805 ⟨by omega, by omega⟩ rfl (fun H2 locs2 hJ2 hk => ?_)
  exact lw_tailI F (i_shadeOf hI (xs (i + 1)) (xs (i + 2))) ha1 hJ2 (z_shadeOf σ (xs (i + 1)) (xs (i + 2))) (fun h => (hN1 h).kept (hk _ hJ1.mO)) (fun h => r_shadeOf hI (xs (i + 1)) (xs (i + 2)) h) hl dL_law_1808 dL_law_1810 dL_law_1811 dL_law_1814 dL_law_1816 dL_law_1821 dL_law_1823 dL_law_1826 dL_law_1827 dL_law_1828 dL_law_1829 dL_law_1831 dL_law_1832 dL_law_1833 dL_law_1838 (by decide) ⟨by decide, by decide⟩ hf kk
set_option maxHeartbeats 4000000 in
theorem lc_vatOf (F : LAWF g p s m c b L xs) (hst : l.stackTraces = false) (hL : L ≤ 3072) (hi : i + 6 ≤ L) (hI : INV σ) (hJ : LJ g s.heap.size ad ma ou od σ u τ σ u s.heap H locs) (hf : cells + 20 ≤ room_1.cells ∧ slots + 200 ≤ room_1.slots) (hl : LOC ls b (ad 0 0) (ma 0) ou od i) (kk : KNT p l e s m b below meth c cells slots Q g (ad 0 0) ma ou od i) : W p l e room_1 s m #[Value.ref b] below meth c H locs cells slots Q (F0 m 1841 ls []) := by
  have hx := F.1
  have hb := F.2.1
  refine lv_aload_n hx hb dL_law_1841 rfl (lv_at hl 4 rfl) ?_
  refine lw_arg (k := 1) F hJ.2.2.2.2 hL hi (by decide) rfl (lv_at hl 5 rfl) (lv_at hl 0 rfl) dL_law_1842 dL_law_1843 dL_law_1845 dL_law_1846 dL_law_1847 ?_
  refine lv_aload_n hx hb dL_law_1848 rfl (lv_at hl 2 rfl) ?_
  refine lw_wrap (oc := ou) (n := 3) (t := (tW σ (xs (i + 1)))) (Fσ := (up σ 0 0 (tW σ (xs (i + 1))))) (Fu := u) (N := ANL g ou ((σ 17 (ti (xs (i + 1)))).toInt64)) (As := [.ref (ad 0 0), .int (xs (i + 1)), .ref ou]) (rest := []) F hJ (qL_vatOf l hst g s.heap.size ad σ u τ hI hJ.1.2 ou hJ.lo1 hJ.hO (xs (i + 1))) (fun U hU hE => ⟨by rw [hU]; exact hJ.1.1, by rw [hU]; exact hJ.2.2.1.1, hE⟩) (fun U a g9 mk q => ⟨q.1, q.2.1, q.2.2.calling g9 mk a⟩) (fun H1 L1 h1 h2 h3 => pw_ro (SMR.u0 _ _) hJ h1 h2 h3) gL_law_L_vatOf rfl rfl rfl (by decide +kernel) ⟨Nat.le_of_ble_eq_true rfl, Nat.le_of_ble_eq_true rfl⟩ rfl hl.1 rfl (Nat.le_of_ble_eq_true rfl) dL_law_1849 ⟨by omega, by omega⟩ (fun H1 locs1 hP => ?_)
  obtain ⟨ad1, τ1, ha1, hJ1, hN1⟩ := hP
  refine lv_istore hx hb dL_law_1852 hl (by decide) rfl (fun ls hl => ?_)
  refine lv_aload_n hx hb dL_law_1854 rfl (lv_at hl 4 rfl) ?_
  refine lw_arg (k := 1) F hJ1.2.2.2.2 hL hi (by decide) rfl (lv_at hl 6 rfl) (lv_at hl 1 rfl) dL_law_1855 dL_law_1856 dL_law_1858 dL_law_1859 dL_law_1860 ?_
  refine lw_mod (H0 := s.heap) (n := 1) (As := [.int (xs (i + 1))]) (rest := []) (v := [.int (if okL σ (xs (i + 1)) ∧ ¬ σ 21 (ti (xs (i + 1))) = 119 then σ 17 (ti (xs (i + 1))) else 0)]) F hJ1 (k_vatOf l g s.heap.size ma hJ1.2.1.2 σ u (xs (i + 1)) hI) gL_law_X7_vatOf rfl rfl rfl (by decide +kernel) ⟨Nat.le_of_ble_eq_true rfl, Nat.le_of_ble_eq_true rfl⟩ rfl hl.1 rfl (Nat.le_of_ble_eq_true rfl) dL_law_1861 ⟨by omega, by omega⟩ rfl (fun H2 locs2 hJ2 hk => ?_)
  exact lw_tailI F (i_vatOf hI (xs (i + 1))) ha1 hJ2 (z_vatOf σ (xs (i + 1))) (fun h => (hN1 h).kept (hk _ hJ1.mO)) (fun h => r_vatOf hI (xs (i + 1)) h) hl dL_law_1864 dL_law_1866 dL_law_1867 dL_law_1870 dL_law_1872 dL_law_1877 dL_law_1879 dL_law_1882 dL_law_1883 dL_law_1884 dL_law_1885 dL_law_1887 dL_law_1888 dL_law_1889 dL_law_1894 (by decide) ⟨by decide, by decide⟩ hf kk
set_option maxHeartbeats 4000000 in
theorem lc_offBy (F : LAWF g p s m c b L xs) (hst : l.stackTraces = false) (hL : L ≤ 3072) (hi : i + 6 ≤ L) (hI : INV σ) (hJ : LJ g s.heap.size ad ma ou od σ u τ σ u s.heap H locs) (hf : cells + 20 ≤ room_1.cells ∧ slots + 200 ≤ room_1.slots) (hl : LOC ls b (ad 0 0) (ma 0) ou od i) (kk : KNT p l e s m b below meth c cells slots Q g (ad 0 0) ma ou od i) : W p l e room_1 s m #[Value.ref b] below meth c H locs cells slots Q (F0 m 1897 ls []) := by
  have hx := F.1
  have hb := F.2.1
  refine lv_aload_n hx hb dL_law_1897 rfl (lv_at hl 4 rfl) ?_
  refine lw_arg (k := 1) F hJ.2.2.2.2 hL hi (by decide) rfl (lv_at hl 5 rfl) (lv_at hl 0 rfl) dL_law_1898 dL_law_1899 dL_law_1901 dL_law_1902 dL_law_1903 ?_
  refine lv_aload_n hx hb dL_law_1904 rfl (lv_at hl 2 rfl) ?_
  refine lw_wrap (oc := ou) (n := 3) (t := (tW σ (xs (i + 1)))) (Fσ := (up σ 0 0 (tW σ (xs (i + 1))))) (Fu := u) (N := ANL g ou ((f_off σ (xs (i + 1))).toInt64)) (As := [.ref (ad 0 0), .int (xs (i + 1)), .ref ou]) (rest := []) F hJ (qL_offBy l hst g s.heap.size ad σ u τ hI hJ.1.2 ou hJ.lo1 hJ.hO (xs (i + 1))) (fun U hU hE => ⟨by rw [hU]; exact hJ.1.1, by rw [hU]; exact hJ.2.2.1.1, hE⟩) (fun U a g9 mk q => ⟨q.1, q.2.1, q.2.2.calling g9 mk a⟩) (fun H1 L1 h1 h2 h3 => pw_ro (SMR.u0 _ _) hJ h1 h2 h3) gL_law_L_offBy rfl rfl rfl (by decide +kernel) ⟨Nat.le_of_ble_eq_true rfl, Nat.le_of_ble_eq_true rfl⟩ rfl hl.1 rfl (Nat.le_of_ble_eq_true rfl) dL_law_1905 ⟨by omega, by omega⟩ (fun H1 locs1 hP => ?_)
  obtain ⟨ad1, τ1, ha1, hJ1, hN1⟩ := hP
  refine lv_istore hx hb dL_law_1908 hl (by decide) rfl (fun ls hl => ?_)
  refine lv_aload_n hx hb dL_law_1910 rfl (lv_at hl 4 rfl) ?_
  refine lw_arg (k := 1) F hJ1.2.2.2.2 hL hi (by decide) rfl (lv_at hl 6 rfl) (lv_at hl 1 rfl) dL_law_1911 dL_law_1912 dL_law_1914 dL_law_1915 dL_law_1916 ?_
  refine lw_mod (H0 := s.heap) (n := 1) (As := [.int (xs (i + 1))]) (rest := []) (v := [.int (if okL σ (xs (i + 1)) ∧ ¬ σ 21 (ti (xs (i + 1))) = 119 then f_off σ (xs (i + 1)) else 0)]) F hJ1 (k_offBy l g s.heap.size ma hJ1.2.1.2 σ u (xs (i + 1)) hI) gL_law_X7_offBy rfl rfl rfl (by decide +kernel) ⟨Nat.le_of_ble_eq_true rfl, Nat.le_of_ble_eq_true rfl⟩ rfl hl.1 rfl (Nat.le_of_ble_eq_true rfl) dL_law_1917 ⟨by omega, by omega⟩ rfl (fun H2 locs2 hJ2 hk => ?_)
  exact lw_tailI F (i_offBy hI (xs (i + 1))) ha1 hJ2 (z_offBy σ (xs (i + 1))) (fun h => (hN1 h).kept (hk _ hJ1.mO)) (fun h => r_offBy hI (xs (i + 1)) h) hl dL_law_1920 dL_law_1922 dL_law_1923 dL_law_1926 dL_law_1928 dL_law_1933 dL_law_1935 dL_law_1938 dL_law_1939 dL_law_1940 dL_law_1941 dL_law_1943 dL_law_1944 dL_law_1945 dL_law_1950 (by decide) ⟨by decide, by decide⟩ hf kk
set_option maxHeartbeats 4000000 in
theorem lc_distance (F : LAWF g p s m c b L xs) (hst : l.stackTraces = false) (hL : L ≤ 3072) (hi : i + 6 ≤ L) (hI : INV σ) (hJ : LJ g s.heap.size ad ma ou od σ u τ σ u s.heap H locs) (hf : cells + 20 ≤ room_1.cells ∧ slots + 200 ≤ room_1.slots) (hl : LOC ls b (ad 0 0) (ma 0) ou od i) (kk : KNT p l e s m b below meth c cells slots Q g (ad 0 0) ma ou od i) : W p l e room_1 s m #[Value.ref b] below meth c H locs cells slots Q (F0 m 1953 ls []) := by
  have hx := F.1
  have hb := F.2.1
  refine lv_aload_n hx hb dL_law_1953 rfl (lv_at hl 4 rfl) ?_
  refine lw_arg (k := 1) F hJ.2.2.2.2 hL hi (by decide) rfl (lv_at hl 5 rfl) (lv_at hl 0 rfl) dL_law_1954 dL_law_1955 dL_law_1957 dL_law_1958 dL_law_1959 ?_
  refine lw_arg (k := 2) F hJ.2.2.2.2 hL hi (by decide) rfl (lv_at hl 5 rfl) (lv_at hl 0 rfl) dL_law_1960 dL_law_1961 dL_law_1963 dL_law_1964 dL_law_1965 ?_
  refine lv_aload_n hx hb dL_law_1966 rfl (lv_at hl 2 rfl) ?_
  refine lw_wrap (oc := ou) (n := 4) (t := (t_dist σ (xs (i + 1)) (xs (i + 2)))) (Fσ := (up σ 0 0 (t_dist σ (xs (i + 1)) (xs (i + 2))))) (Fu := u) (N := ANL g ou ((f_apart σ (xs (i + 1)) (xs (i + 2))).toInt64)) (As := [.ref (ad 0 0), .int (xs (i + 1)), .int (xs (i + 2)), .ref ou]) (rest := []) F hJ (qL_distance l hst g s.heap.size ad σ u τ hI hJ.1.2 ou hJ.lo1 hJ.hO (xs (i + 1)) (xs (i + 2))) (fun U hU hE => ⟨by rw [hU]; exact hJ.1.1, by rw [hU]; exact hJ.2.2.1.1, hE⟩) (fun U a g9 mk q => ⟨q.1, q.2.1, q.2.2.calling g9 mk a⟩) (fun H1 L1 h1 h2 h3 => pw_ro (SMR.u0 _ _) hJ h1 h2 h3) gL_law_L_distance rfl rfl rfl (by decide +kernel) ⟨Nat.le_of_ble_eq_true rfl, Nat.le_of_ble_eq_true rfl⟩ rfl hl.1 rfl (Nat.le_of_ble_eq_true rfl) dL_law_1967 ⟨by omega, by omega⟩ (fun H1 locs1 hP => ?_)
  obtain ⟨ad1, τ1, ha1, hJ1, hN1⟩ := hP
  refine lv_istore hx hb dL_law_1970 hl (by decide) rfl (fun ls hl => ?_)
  refine lv_aload_n hx hb dL_law_1972 rfl (lv_at hl 4 rfl) ?_
  refine lw_arg (k := 1) F hJ1.2.2.2.2 hL hi (by decide) rfl (lv_at hl 6 rfl) (lv_at hl 1 rfl) dL_law_1973 dL_law_1974 dL_law_1976 dL_law_1977 dL_law_1978 ?_
  refine lw_arg (k := 2) F hJ1.2.2.2.2 hL hi (by decide) rfl (lv_at hl 6 rfl) (lv_at hl 1 rfl) dL_law_1979 dL_law_1980 dL_law_1982 dL_law_1983 dL_law_1984 ?_
  refine lw_mod (H0 := s.heap) (n := 2) (As := [.int (xs (i + 1)), .int (xs (i + 2))]) (rest := []) (v := [.int (if t_dist σ (xs (i + 1)) (xs (i + 2)) = 0 then f_apart σ (xs (i + 1)) (xs (i + 2)) else 0)]) F hJ1 (k_distance l g s.heap.size ma hJ1.2.1.2 σ u (xs (i + 1)) (xs (i + 2)) hI) gL_law_X7_distance rfl rfl rfl (by decide +kernel) ⟨Nat.le_of_ble_eq_true rfl, Nat.le_of_ble_eq_true rfl⟩ rfl hl.1 rfl (Nat.le_of_ble_eq_true rfl) dL_law_1985 ⟨by omega, by omega⟩ rfl (fun H2 locs2 hJ2 hk => ?_)
  exact lw_tailI F (i_distance hI (xs (i + 1)) (xs (i + 2))) ha1 hJ2 (z_distance σ (xs (i + 1)) (xs (i + 2))) (fun h => (hN1 h).kept (hk _ hJ1.mO)) (fun h => r_distance hI (xs (i + 1)) (xs (i + 2)) h) hl dL_law_1988 dL_law_1990 dL_law_1991 dL_law_1994 dL_law_1996 dL_law_2001 dL_law_2003 dL_law_2006 dL_law_2007 dL_law_2008 dL_law_2009 dL_law_2011 dL_law_2012 dL_law_2013 dL_law_2018 (by decide) ⟨by decide, by decide⟩ hf kk
set_option maxHeartbeats 4000000 in
theorem lc_nearest (F : LAWF g p s m c b L xs) (hst : l.stackTraces = false) (hL : L ≤ 3072) (hi : i + 6 ≤ L) (hI : INV σ) (hJ : LJ g s.heap.size ad ma ou od σ u τ σ u s.heap H locs) (hf : cells + 20 ≤ room_1.cells ∧ slots + 200 ≤ room_1.slots) (hl : LOC ls b (ad 0 0) (ma 0) ou od i) (kk : KNT p l e s m b below meth c cells slots Q g (ad 0 0) ma ou od i) : W p l e room_1 s m #[Value.ref b] below meth c H locs cells slots Q (F0 m 2021 ls []) := by
  have hx := F.1
  have hb := F.2.1
  refine lv_aload_n hx hb dL_law_2021 rfl (lv_at hl 4 rfl) ?_
  refine lw_arg (k := 1) F hJ.2.2.2.2 hL hi (by decide) rfl (lv_at hl 5 rfl) (lv_at hl 0 rfl) dL_law_2022 dL_law_2023 dL_law_2025 dL_law_2026 dL_law_2027 ?_
  refine lv_aload_n hx hb dL_law_2028 rfl (lv_at hl 2 rfl) ?_
  refine lw_wrap (oc := ou) (n := 3) (t := (t_near σ (xs (i + 1)))) (Fσ := (up σ 0 0 (t_near σ (xs (i + 1))))) (Fu := u) (N := ANL g ou ((bestF σ (xs (i + 1)) (nL σ)).toInt64)) (As := [.ref (ad 0 0), .int (xs (i + 1)), .ref ou]) (rest := []) F hJ (qL_nearest l hst g s.heap.size ad σ u τ hI hJ.1.2 ou hJ.lo1 hJ.hO (xs (i + 1))) (fun U hU hE => ⟨by rw [hU]; exact hJ.1.1, by rw [hU]; exact hJ.2.2.1.1, hE⟩) (fun U a g9 mk q => ⟨q.1, q.2.1, q.2.2.calling g9 mk a⟩) (fun H1 L1 h1 h2 h3 => pw_ro (SMR.u0 _ _) hJ h1 h2 h3) gL_law_L_nearest rfl rfl rfl (by decide +kernel) ⟨Nat.le_of_ble_eq_true rfl, Nat.le_of_ble_eq_true rfl⟩ rfl hl.1 rfl (Nat.le_of_ble_eq_true rfl) dL_law_2029 ⟨by omega, by omega⟩ (fun H1 locs1 hP => ?_)
  obtain ⟨ad1, τ1, ha1, hJ1, hN1⟩ := hP
  refine lv_istore hx hb dL_law_2032 hl (by decide) rfl (fun ls hl => ?_)
  refine lv_aload_n hx hb dL_law_2034 rfl (lv_at hl 4 rfl) ?_
  refine lw_arg (k := 1) F hJ1.2.2.2.2 hL hi (by decide) rfl (lv_at hl 6 rfl) (lv_at hl 1 rfl) dL_law_2035 dL_law_2036 dL_law_2038 dL_law_2039 dL_law_2040 ?_
  refine lw_mod (H0 := s.heap) (n := 1) (As := [.int (xs (i + 1))]) (rest := []) (v := [.int (if okW σ (xs (i + 1)) ∧ ¬ bestF σ (xs (i + 1)) (nL σ) = -1 then bestF σ (xs (i + 1)) (nL σ) else 0)]) F hJ1 (k_nearest l g s.heap.size ma hJ1.2.1.2 σ u (xs (i + 1)) hI) gL_law_X7_nearest rfl rfl rfl (by decide +kernel) ⟨Nat.le_of_ble_eq_true rfl, Nat.le_of_ble_eq_true rfl⟩ rfl hl.1 rfl (Nat.le_of_ble_eq_true rfl) dL_law_2041 ⟨by omega, by omega⟩ rfl (fun H2 locs2 hJ2 hk => ?_)
  exact lw_tailI F (i_nearest hI (xs (i + 1))) ha1 hJ2 (z_nearest σ (xs (i + 1))) (fun h => (hN1 h).kept (hk _ hJ1.mO)) (fun h => r_nearest hI (xs (i + 1)) h) hl dL_law_2044 dL_law_2046 dL_law_2047 dL_law_2050 dL_law_2052 dL_law_2057 dL_law_2059 dL_law_2062 dL_law_2063 dL_law_2064 dL_law_2065 dL_law_2067 dL_law_2068 dL_law_2069 dL_law_2074 (by decide) ⟨by decide, by decide⟩ hf kk
set_option maxHeartbeats 4000000 in
theorem lc_byLight (F : LAWF g p s m c b L xs) (hst : l.stackTraces = false) (hL : L ≤ 3072) (hi : i + 6 ≤ L) (hI : INV σ) (hJ : LJ g s.heap.size ad ma ou od σ u τ σ u s.heap H locs) (hf : cells + 20 ≤ room_1.cells ∧ slots + 200 ≤ room_1.slots) (hl : LOC ls b (ad 0 0) (ma 0) ou od i) (kk : KNT p l e s m b below meth c cells slots Q g (ad 0 0) ma ou od i) : W p l e room_1 s m #[Value.ref b] below meth c H locs cells slots Q (F0 m 2077 ls []) := by
  have hx := F.1
  have hb := F.2.1
  refine lv_aload_n hx hb dL_law_2077 rfl (lv_at hl 4 rfl) ?_
  refine lw_arg (k := 1) F hJ.2.2.2.2 hL hi (by decide) rfl (lv_at hl 5 rfl) (lv_at hl 0 rfl) dL_law_2078 dL_law_2079 dL_law_2081 dL_law_2082 dL_law_2083 ?_
  refine lv_aload_n hx hb dL_law_2084 rfl (lv_at hl 2 rfl) ?_
  refine lw_wrap (oc := ou) (n := 3) (t := (t_byLight σ (xs (i + 1)))) (Fσ := (up σ 0 0 (t_byLight σ (xs (i + 1))))) (Fu := u) (N := ANL g ou ((f_byLight σ (xs (i + 1))).toInt64)) (As := [.ref (ad 0 0), .int (xs (i + 1)), .ref ou]) (rest := []) F hJ (qL_byLight l hst g s.heap.size ad σ u τ hI hJ.1.2 ou hJ.lo1 hJ.hO (xs (i + 1))) (fun U hU hE => ⟨by rw [hU]; exact hJ.1.1, by rw [hU]; exact hJ.2.2.1.1, hE⟩) (fun U a g9 mk q => ⟨q.1, q.2.1, q.2.2.calling g9 mk a⟩) (fun H1 L1 h1 h2 h3 => pw_ro (SMR.u0 _ _) hJ h1 h2 h3) gL_law_L_byLight rfl rfl rfl (by decide +kernel) ⟨Nat.le_of_ble_eq_true rfl, Nat.le_of_ble_eq_true rfl⟩ rfl hl.1 rfl (Nat.le_of_ble_eq_true rfl) dL_law_2085 ⟨by omega, by omega⟩ (fun H1 locs1 hP => ?_)
  obtain ⟨ad1, τ1, ha1, hJ1, hN1⟩ := hP
  refine lv_istore hx hb dL_law_2088 hl (by decide) rfl (fun ls hl => ?_)
  refine lv_aload_n hx hb dL_law_2090 rfl (lv_at hl 4 rfl) ?_
  refine lw_arg (k := 1) F hJ1.2.2.2.2 hL hi (by decide) rfl (lv_at hl 6 rfl) (lv_at hl 1 rfl) dL_law_2091 dL_law_2092 dL_law_2094 dL_law_2095 dL_law_2096 ?_
  refine lw_mod (H0 := s.heap) (n := 1) (As := [.int (xs (i + 1))]) (rest := []) (v := [.int (if f_byLight σ (xs (i + 1)) = -1 then 0 else f_byLight σ (xs (i + 1)))]) F hJ1 (k_byLight l g s.heap.size ma hJ1.2.1.2 σ u (xs (i + 1)) hI) gL_law_X7_byLight rfl rfl rfl (by decide +kernel) ⟨Nat.le_of_ble_eq_true rfl, Nat.le_of_ble_eq_true rfl⟩ rfl hl.1 rfl (Nat.le_of_ble_eq_true rfl) dL_law_2097 ⟨by omega, by omega⟩ rfl (fun H2 locs2 hJ2 hk => ?_)
  exact lw_tailI F (i_byLight hI (xs (i + 1))) ha1 hJ2 (z_byLight σ (xs (i + 1))) (fun h => (hN1 h).kept (hk _ hJ1.mO)) (fun h => r_byLight hI (xs (i + 1)) h) hl dL_law_2100 dL_law_2102 dL_law_2103 dL_law_2106 dL_law_2108 dL_law_2113 dL_law_2115 dL_law_2118 dL_law_2119 dL_law_2120 dL_law_2121 dL_law_2123 dL_law_2124 dL_law_2125 dL_law_2130 (by decide) ⟨by decide, by decide⟩ hf kk
set_option maxHeartbeats 4000000 in
theorem lc_clock (F : LAWF g p s m c b L xs) (hst : l.stackTraces = false) (hL : L ≤ 3072) (hi : i + 6 ≤ L) (hI : INV σ) (hJ : LJ g s.heap.size ad ma ou od σ u τ σ u s.heap H locs) (hf : cells + 20 ≤ room_1.cells ∧ slots + 200 ≤ room_1.slots) (hl : LOC ls b (ad 0 0) (ma 0) ou od i) (kk : KNT p l e s m b below meth c cells slots Q g (ad 0 0) ma ou od i) : W p l e room_1 s m #[Value.ref b] below meth c H locs cells slots Q (F0 m 2133 ls []) := by
  have hx := F.1
  have hb := F.2.1
  refine lv_aload_n hx hb dL_law_2133 rfl (lv_at hl 4 rfl) ?_
  refine lw_arg (k := 1) F hJ.2.2.2.2 hL hi (by decide) rfl (lv_at hl 5 rfl) (lv_at hl 0 rfl) dL_law_2134 dL_law_2135 dL_law_2137 dL_law_2138 dL_law_2139 ?_
  refine lv_aload_n hx hb dL_law_2140 rfl (lv_at hl 2 rfl) ?_
  refine lw_wrap (oc := ou) (n := 3) (t := (tV σ (xs (i + 1)))) (Fσ := (up σ 0 0 (tV σ (xs (i + 1))))) (Fu := u) (N := ANL g ou ((σ 25 (ti (xs (i + 1)))).toInt64)) (As := [.ref (ad 0 0), .int (xs (i + 1)), .ref ou]) (rest := []) F hJ (qL_clock l hst g s.heap.size ad σ u τ hI hJ.1.2 ou hJ.lo1 hJ.hO (xs (i + 1))) (fun U hU hE => ⟨by rw [hU]; exact hJ.1.1, by rw [hU]; exact hJ.2.2.1.1, hE⟩) (fun U a g9 mk q => ⟨q.1, q.2.1, q.2.2.calling g9 mk a⟩) (fun H1 L1 h1 h2 h3 => pw_ro (SMR.u0 _ _) hJ h1 h2 h3) gL_law_L_clock rfl rfl rfl (by decide +kernel) ⟨Nat.le_of_ble_eq_true rfl, Nat.le_of_ble_eq_true rfl⟩ rfl hl.1 rfl (Nat.le_of_ble_eq_true rfl) dL_law_2141 ⟨by omega, by omega⟩ (fun H1 locs1 hP => ?_)
  obtain ⟨ad1, τ1, ha1, hJ1, hN1⟩ := hP
  refine lv_istore hx hb dL_law_2144 hl (by decide) rfl (fun ls hl => ?_)
  refine lv_aload_n hx hb dL_law_2146 rfl (lv_at hl 4 rfl) ?_
  refine lw_arg (k := 1) F hJ1.2.2.2.2 hL hi (by decide) rfl (lv_at hl 6 rfl) (lv_at hl 1 rfl) dL_law_2147 dL_law_2148 dL_law_2150 dL_law_2151 dL_law_2152 ?_
  refine lw_mod (H0 := s.heap) (n := 1) (As := [.int (xs (i + 1))]) (rest := []) (v := [.int (if okV σ (xs (i + 1)) then σ 25 (ti (xs (i + 1))) else 0)]) F hJ1 (k_clock l g s.heap.size ma hJ1.2.1.2 σ u (xs (i + 1)) hI) gL_law_X7_clock rfl rfl rfl (by decide +kernel) ⟨Nat.le_of_ble_eq_true rfl, Nat.le_of_ble_eq_true rfl⟩ rfl hl.1 rfl (Nat.le_of_ble_eq_true rfl) dL_law_2153 ⟨by omega, by omega⟩ rfl (fun H2 locs2 hJ2 hk => ?_)
  exact lw_tailI F (i_clock hI (xs (i + 1))) ha1 hJ2 (z_clock σ (xs (i + 1))) (fun h => (hN1 h).kept (hk _ hJ1.mO)) (fun h => r_clock hI (xs (i + 1)) h) hl dL_law_2156 dL_law_2158 dL_law_2159 dL_law_2162 dL_law_2164 dL_law_2169 dL_law_2171 dL_law_2174 dL_law_2175 dL_law_2176 dL_law_2177 dL_law_2179 dL_law_2180 dL_law_2181 dL_law_2186 (by decide) ⟨by decide, by decide⟩ hf kk
set_option maxHeartbeats 4000000 in
theorem lc_cleanings (F : LAWF g p s m c b L xs) (hst : l.stackTraces = false) (hL : L ≤ 3072) (hi : i + 6 ≤ L) (hI : INV σ) (hJ : LJ g s.heap.size ad ma ou od σ u τ σ u s.heap H locs) (hf : cells + 20 ≤ room_1.cells ∧ slots + 200 ≤ room_1.slots) (hl : LOC ls b (ad 0 0) (ma 0) ou od i) (kk : KNT p l e s m b below meth c cells slots Q g (ad 0 0) ma ou od i) : W p l e room_1 s m #[Value.ref b] below meth c H locs cells slots Q (F0 m 2189 ls []) := by
  have hx := F.1
  have hb := F.2.1
  refine lv_aload_n hx hb dL_law_2189 rfl (lv_at hl 4 rfl) ?_
  refine lw_arg (k := 1) F hJ.2.2.2.2 hL hi (by decide) rfl (lv_at hl 5 rfl) (lv_at hl 0 rfl) dL_law_2190 dL_law_2191 dL_law_2193 dL_law_2194 dL_law_2195 ?_
  refine lv_aload_n hx hb dL_law_2196 rfl (lv_at hl 2 rfl) ?_
  refine lw_wrap (oc := ou) (n := 3) (t := (tV σ (xs (i + 1)))) (Fσ := (up σ 0 0 (tV σ (xs (i + 1))))) (Fu := u) (N := ANL g ou ((σ 26 (ti (xs (i + 1)))).toInt64)) (As := [.ref (ad 0 0), .int (xs (i + 1)), .ref ou]) (rest := []) F hJ (qL_cleanings l hst g s.heap.size ad σ u τ hI hJ.1.2 ou hJ.lo1 hJ.hO (xs (i + 1))) (fun U hU hE => ⟨by rw [hU]; exact hJ.1.1, by rw [hU]; exact hJ.2.2.1.1, hE⟩) (fun U a g9 mk q => ⟨q.1, q.2.1, q.2.2.calling g9 mk a⟩) (fun H1 L1 h1 h2 h3 => pw_ro (SMR.u0 _ _) hJ h1 h2 h3) gL_law_L_cleanings rfl rfl rfl (by decide +kernel) ⟨Nat.le_of_ble_eq_true rfl, Nat.le_of_ble_eq_true rfl⟩ rfl hl.1 rfl (Nat.le_of_ble_eq_true rfl) dL_law_2197 ⟨by omega, by omega⟩ (fun H1 locs1 hP => ?_)
  obtain ⟨ad1, τ1, ha1, hJ1, hN1⟩ := hP
  refine lv_istore hx hb dL_law_2200 hl (by decide) rfl (fun ls hl => ?_)
  refine lv_aload_n hx hb dL_law_2202 rfl (lv_at hl 4 rfl) ?_
  refine lw_arg (k := 1) F hJ1.2.2.2.2 hL hi (by decide) rfl (lv_at hl 6 rfl) (lv_at hl 1 rfl) dL_law_2203 dL_law_2204 dL_law_2206 dL_law_2207 dL_law_2208 ?_
  refine lw_mod (H0 := s.heap) (n := 1) (As := [.int (xs (i + 1))]) (rest := []) (v := [.int (if okV σ (xs (i + 1)) then σ 26 (ti (xs (i + 1))) else 0)]) F hJ1 (k_cleanings l g s.heap.size ma hJ1.2.1.2 σ u (xs (i + 1)) hI) gL_law_X7_cleanings rfl rfl rfl (by decide +kernel) ⟨Nat.le_of_ble_eq_true rfl, Nat.le_of_ble_eq_true rfl⟩ rfl hl.1 rfl (Nat.le_of_ble_eq_true rfl) dL_law_2209 ⟨by omega, by omega⟩ rfl (fun H2 locs2 hJ2 hk => ?_)
  exact lw_tailI F (i_cleanings hI (xs (i + 1))) ha1 hJ2 (z_cleanings σ (xs (i + 1))) (fun h => (hN1 h).kept (hk _ hJ1.mO)) (fun h => r_cleanings hI (xs (i + 1)) h) hl dL_law_2212 dL_law_2214 dL_law_2215 dL_law_2218 dL_law_2220 dL_law_2225 dL_law_2227 dL_law_2230 dL_law_2231 dL_law_2232 dL_law_2233 dL_law_2235 dL_law_2236 dL_law_2237 dL_law_2242 (by decide) ⟨by decide, by decide⟩ hf kk
end LAWC
