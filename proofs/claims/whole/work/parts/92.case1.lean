/-! ===== the law, case by case ===== -/
section LAWC
variable {p : Program} {l : Launch} {e : Env} {s : State} {m : MethodId} {below : List Frame} {meth : Method} {c : Code} {H : Heap} {locs : List Loc} {cells slots : Nat} {Q : State → Prop}
variable {ls : Array Slot} {g : EG} {b L : Nat} {xs : Nat → Int32} {ad : Nat → Nat → Nat} {ma : Nat → Nat} {ou od : Nat} {σ τ : Sg} {u : Nat → Int64} {i : Nat}
set_option maxHeartbeats 4000000 in
theorem lc_clean (F : LAWF g p s m c b L xs) (hst : l.stackTraces = false) (hL : L ≤ 3072) (hi : i + 6 ≤ L) (hI : INV σ) (hJ : LJ g s.heap.size ad ma ou od σ u τ σ u s.heap H locs) (hf : cells + 20 ≤ room_1.cells ∧ slots + 200 ≤ room_1.slots) (hl : LOC ls b (ad 0 0) (ma 0) ou od i) (kk : KNT p l e s m b below meth c cells slots Q g (ad 0 0) ma ou od i) : W p l e room_1 s m #[Value.ref b] below meth c H locs cells slots Q (F0 m 1044 ls []) := by
  have hx := F.1
  have hb := F.2.1
  refine lv_aload_n hx hb dL_law_1044 rfl (lv_at hl 4 rfl) ?_
  refine lw_arg (k := 1) F hJ.2.2.2.2 hL hi (by decide) rfl (lv_at hl 5 rfl) (lv_at hl 0 rfl) dL_law_1045 dL_law_1046 dL_law_1048 dL_law_1049 dL_law_1050 ?_
  refine lv_aload_n hx hb dL_law_1051 rfl (lv_at hl 2 rfl) ?_
  refine lw_wrap (oc := ou) (n := 3) (t := (tV σ (xs (i + 1)))) (Fσ := (F_clean σ (xs (i + 1)))) (Fu := u) (N := ANL g ou ((σ 25 (ti (xs (i + 1))) + 3).toInt64)) (As := [.ref (ad 0 0), .int (xs (i + 1)), .ref ou]) (rest := []) F hJ (qL_clean l hst g s.heap.size ad σ u τ hI hJ.1.2 ou hJ.lo1 hJ.hO (xs (i + 1))) (fun U hU hE => ⟨by rw [hU]; exact hJ.1.1, by rw [hU]; exact hJ.2.2.1.1, hE⟩) (fun U a g9 mk q => ⟨q.1, q.2.1, q.2.2.calling g9 mk a⟩) (fun H1 L1 h1 h2 h3 => pw_mut (fun h => ⟨n_clean h, rfl⟩) (x_clean σ (xs (i + 1))) hJ h1 h2 h3) gL_law_L_clean rfl rfl rfl (by decide +kernel) ⟨Nat.le_of_ble_eq_true rfl, Nat.le_of_ble_eq_true rfl⟩ rfl hl.1 rfl (Nat.le_of_ble_eq_true rfl) dL_law_1052 ⟨by omega, by omega⟩ (fun H1 locs1 hP => ?_)
  obtain ⟨ad1, τ1, ha1, hJ1, hN1⟩ := hP
  refine lv_istore hx hb dL_law_1055 hl (by decide) rfl (fun ls hl => ?_)
  refine lv_aload_n hx hb dL_law_1057 rfl (lv_at hl 4 rfl) ?_
  refine lw_arg (k := 1) F hJ1.2.2.2.2 hL hi (by decide) rfl (lv_at hl 6 rfl) (lv_at hl 1 rfl) dL_law_1058 dL_law_1059 dL_law_1061 dL_law_1062 dL_law_1063 ?_
  refine lw_mod (H0 := s.heap) (n := 1) (As := [.int (xs (i + 1))]) (rest := []) (v := [.int (if okV σ (xs (i + 1)) then σ 25 (ti (xs (i + 1))) + 3 else 0)]) F hJ1 (k_clean l g s.heap.size ma hJ1.2.1.2 σ u (xs (i + 1)) hI) gL_law_X7_clean rfl rfl rfl (by decide +kernel) ⟨Nat.le_of_ble_eq_true rfl, Nat.le_of_ble_eq_true rfl⟩ rfl hl.1 rfl (Nat.le_of_ble_eq_true rfl) dL_law_1064 ⟨by omega, by omega⟩ rfl (fun H2 locs2 hJ2 hk => ?_)
  exact lw_tailI F (i_clean hI (xs (i + 1))) ha1 hJ2 (z_clean σ (xs (i + 1))) (fun h => (hN1 h).kept (hk _ hJ1.mO)) (fun h => r_clean hI (xs (i + 1)) h) hl dL_law_1067 dL_law_1069 dL_law_1070 dL_law_1073 dL_law_1075 dL_law_1080 dL_law_1082 dL_law_1085 dL_law_1086 dL_law_1087 dL_law_1088 dL_law_1090 dL_law_1091 dL_law_1092 dL_law_1097 (by decide) ⟨by decide, by decide⟩ hf kk
set_option maxHeartbeats 4000000 in
theorem lc_verdict (F : LAWF g p s m c b L xs) (hst : l.stackTraces = false) (hL : L ≤ 3072) (hi : i + 6 ≤ L) (hI : INV σ) (hJ : LJ g s.heap.size ad ma ou od σ u τ σ u s.heap H locs) (hf : cells + 20 ≤ room_1.cells ∧ slots + 200 ≤ room_1.slots) (hl : LOC ls b (ad 0 0) (ma 0) ou od i) (kk : KNT p l e s m b below meth c cells slots Q g (ad 0 0) ma ou od i) : W p l e room_1 s m #[Value.ref b] below meth c H locs cells slots Q (F0 m 1100 ls []) := by
  have hx := F.1
  have hb := F.2.1
  refine lv_aload_n hx hb dL_law_1100 rfl (lv_at hl 4 rfl) ?_
  refine lw_arg (k := 1) F hJ.2.2.2.2 hL hi (by decide) rfl (lv_at hl 5 rfl) (lv_at hl 0 rfl) dL_law_1101 dL_law_1102 dL_law_1104 dL_law_1105 dL_law_1106 ?_
  refine lv_aload_n hx hb dL_law_1107 rfl (lv_at hl 2 rfl) ?_
  refine lw_wrap (oc := ou) (n := 3) (t := (tN σ (xs (i + 1)) 100)) (Fσ := (up σ 0 0 (tN σ (xs (i + 1)) 100))) (Fu := u) (N := ANL g ou ((f_judged σ (xs (i + 1))).toInt64)) (As := [.ref (ad 0 0), .int (xs (i + 1)), .ref ou]) (rest := []) F hJ (qL_verdict l hst g s.heap.size ad σ u τ hI hJ.1.2 ou hJ.lo1 hJ.hO (xs (i + 1))) (fun U hU hE => ⟨by rw [hU]; exact hJ.1.1, by rw [hU]; exact hJ.2.2.1.1, hE⟩) (fun U a g9 mk q => ⟨q.1, q.2.1, q.2.2.calling g9 mk a⟩) (fun H1 L1 h1 h2 h3 => pw_ro (SMR.u0 _ _) hJ h1 h2 h3) gL_law_L_verdict rfl rfl rfl (by decide +kernel) ⟨Nat.le_of_ble_eq_true rfl, Nat.le_of_ble_eq_true rfl⟩ rfl hl.1 rfl (Nat.le_of_ble_eq_true rfl) dL_law_1108 ⟨by omega, by omega⟩ (fun H1 locs1 hP => ?_)
  obtain ⟨ad1, τ1, ha1, hJ1, hN1⟩ := hP
  refine lv_istore hx hb dL_law_1111 hl (by decide) rfl (fun ls hl => ?_)
  refine lv_aload_n hx hb dL_law_1113 rfl (lv_at hl 4 rfl) ?_
  refine lw_arg (k := 1) F hJ1.2.2.2.2 hL hi (by decide) rfl (lv_at hl 6 rfl) (lv_at hl 1 rfl) dL_law_1114 dL_law_1115 dL_law_1117 dL_law_1118 dL_law_1119 ?_
  refine lw_mod (H0 := s.heap) (n := 1) (As := [.int (xs (i + 1))]) (rest := []) (v := [.int (if okL σ (xs (i + 1)) ∧ σ 21 (ti (xs (i + 1))) = 100 then f_judged σ (xs (i + 1)) else 102)]) F hJ1 (k_verdict l g s.heap.size ma hJ1.2.1.2 σ u (xs (i + 1)) hI) gL_law_X7_verdict rfl rfl rfl (by decide +kernel) ⟨Nat.le_of_ble_eq_true rfl, Nat.le_of_ble_eq_true rfl⟩ rfl hl.1 rfl (Nat.le_of_ble_eq_true rfl) dL_law_1120 ⟨by omega, by omega⟩ rfl (fun H2 locs2 hJ2 hk => ?_)
  exact lw_tailI F (i_verdict hI (xs (i + 1))) ha1 hJ2 (z_verdict σ (xs (i + 1))) (fun h => (hN1 h).kept (hk _ hJ1.mO)) (fun h => r_verdict hI (xs (i + 1)) h) hl dL_law_1123 dL_law_1125 dL_law_1126 dL_law_1129 dL_law_1131 dL_law_1136 dL_law_1138 dL_law_1141 dL_law_1142 dL_law_1143 dL_law_1144 dL_law_1146 dL_law_1147 dL_law_1148 dL_law_1153 (by decide) ⟨by decide, by decide⟩ hf kk
set_option maxHeartbeats 4000000 in
theorem lc_judge (F : LAWF g p s m c b L xs) (hst : l.stackTraces = false) (hL : L ≤ 3072) (hi : i + 6 ≤ L) (hI : INV σ) (hJ : LJ g s.heap.size ad ma ou od σ u τ σ u s.heap H locs) (hf : cells + 20 ≤ room_1.cells ∧ slots + 200 ≤ room_1.slots) (hl : LOC ls b (ad 0 0) (ma 0) ou od i) (kk : KNT p l e s m b below meth c cells slots Q g (ad 0 0) ma ou od i) : W p l e room_1 s m #[Value.ref b] below meth c H locs cells slots Q (F0 m 1156 ls []) := by
  have hx := F.1
  have hb := F.2.1
  refine lv_aload_n hx hb dL_law_1156 rfl (lv_at hl 4 rfl) ?_
  refine lw_arg (k := 1) F hJ.2.2.2.2 hL hi (by decide) rfl (lv_at hl 5 rfl) (lv_at hl 0 rfl) dL_law_1157 dL_law_1158 dL_law_1160 dL_law_1161 dL_law_1162 ?_
  refine lv_aload_n hx hb dL_law_1163 rfl (lv_at hl 2 rfl) ?_
  refine lw_wrap (oc := ou) (n := 3) (t := (tN σ (xs (i + 1)) 100)) (Fσ := (F_judge σ (xs (i + 1)))) (Fu := u) (N := ANL g ou (if f_judged σ (xs (i + 1)) = 112 then 1 else 0)) (As := [.ref (ad 0 0), .int (xs (i + 1)), .ref ou]) (rest := []) F hJ (qL_judge l hst g s.heap.size ad σ u τ hI hJ.1.2 ou hJ.lo1 hJ.hO (xs (i + 1))) (fun U hU hE => ⟨by rw [hU]; exact hJ.1.1, by rw [hU]; exact hJ.2.2.1.1, hE⟩) (fun U a g9 mk q => ⟨q.1, q.2.1, q.2.2.calling g9 mk a⟩) (fun H1 L1 h1 h2 h3 => pw_mut (fun h => ⟨n_judge h, rfl⟩) (x_judge σ (xs (i + 1))) hJ h1 h2 h3) gL_law_L_judge rfl rfl rfl (by decide +kernel) ⟨Nat.le_of_ble_eq_true rfl, Nat.le_of_ble_eq_true rfl⟩ rfl hl.1 rfl (Nat.le_of_ble_eq_true rfl) dL_law_1164 ⟨by omega, by omega⟩ (fun H1 locs1 hP => ?_)
  obtain ⟨ad1, τ1, ha1, hJ1, hN1⟩ := hP
  refine lv_istore hx hb dL_law_1167 hl (by decide) rfl (fun ls hl => ?_)
  refine lv_aload_n hx hb dL_law_1169 rfl (lv_at hl 4 rfl) ?_
  refine lw_arg (k := 1) F hJ1.2.2.2.2 hL hi (by decide) rfl (lv_at hl 6 rfl) (lv_at hl 1 rfl) dL_law_1170 dL_law_1171 dL_law_1173 dL_law_1174 dL_law_1175 ?_
  refine lw_mod (H0 := s.heap) (n := 1) (As := [.int (xs (i + 1))]) (rest := []) (v := [.int (if okL σ (xs (i + 1)) ∧ σ 21 (ti (xs (i + 1))) = 100 ∧ f_judged σ (xs (i + 1)) = 112 then 1 else 0)]) F hJ1 (k_judge l g s.heap.size ma hJ1.2.1.2 σ u (xs (i + 1)) hI) gL_law_X7_judge rfl rfl rfl (by decide +kernel) ⟨Nat.le_of_ble_eq_true rfl, Nat.le_of_ble_eq_true rfl⟩ rfl hl.1 rfl (Nat.le_of_ble_eq_true rfl) dL_law_1176 ⟨by omega, by omega⟩ rfl (fun H2 locs2 hJ2 hk => ?_)
  exact lw_tailZ F (i_judge hI (xs (i + 1))) ha1 hJ2 (z_judge σ (xs (i + 1))) (fun h => (hN1 h).kept (hk _ hJ1.mO)) (fun h => bz01 (r_judge hI (xs (i + 1)) h)) hl dL_law_1179 dL_law_1181 dL_law_1182 dL_law_1185 dL_law_1187 dL_law_1192 dL_law_1194 dL_law_1197 dL_law_1198 dL_law_1199 dL_law_1200 dL_law_1202 dL_law_1205 dL_law_1206 dL_law_1209 dL_law_1210 dL_law_1211 dL_law_1216 (by decide) ⟨by decide, by decide⟩ hf kk
set_option maxHeartbeats 4000000 in
theorem lc_again (F : LAWF g p s m c b L xs) (hst : l.stackTraces = false) (hL : L ≤ 3072) (hi : i + 6 ≤ L) (hI : INV σ) (hJ : LJ g s.heap.size ad ma ou od σ u τ σ u s.heap H locs) (hf : cells + 20 ≤ room_1.cells ∧ slots + 200 ≤ room_1.slots) (hl : LOC ls b (ad 0 0) (ma 0) ou od i) (kk : KNT p l e s m b below meth c cells slots Q g (ad 0 0) ma ou od i) : W p l e room_1 s m #[Value.ref b] below meth c H locs cells slots Q (F0 m 1219 ls []) := by
  have hx := F.1
  have hb := F.2.1
  refine lv_aload_n hx hb dL_law_1219 rfl (lv_at hl 4 rfl) ?_
  refine lw_arg (k := 1) F hJ.2.2.2.2 hL hi (by decide) rfl (lv_at hl 5 rfl) (lv_at hl 0 rfl) dL_law_1220 dL_law_1221 dL_law_1223 dL_law_1224 dL_law_1225 ?_
  refine lv_aload_n hx hb dL_law_1226 rfl (lv_at hl 2 rfl) ?_
  refine lw_wrap (oc := ou) (n := 3) (t := (tN σ (xs (i + 1)) 120)) (Fσ := (F_again σ (xs (i + 1)))) (Fu := u) (N := ANL g ou ((f_waiting (up (up σ 0 0 0) 21 (ti (xs (i + 1))) 119)).toInt64)) (As := [.ref (ad 0 0), .int (xs (i + 1)), .ref ou]) (rest := []) F hJ (qL_again l hst g s.heap.size ad σ u τ hI hJ.1.2 ou hJ.lo1 hJ.hO (xs (i + 1))) (fun U hU hE => ⟨by rw [hU]; exact hJ.1.1, by rw [hU]; exact hJ.2.2.1.1, hE⟩) (fun U a g9 mk q => ⟨q.1, q.2.1, q.2.2.calling g9 mk a⟩) (fun H1 L1 h1 h2 h3 => pw_mut (fun h => ⟨n_again h, rfl⟩) (x_again σ (xs (i + 1))) hJ h1 h2 h3) gL_law_L_again rfl rfl rfl (by decide +kernel) ⟨Nat.le_of_ble_eq_true rfl, Nat.le_of_ble_eq_true rfl⟩ rfl hl.1 rfl (Nat.le_of_ble_eq_true rfl) dL_law_1227 ⟨by omega, by omega⟩ (fun H1 locs1 hP => ?_)
  obtain ⟨ad1, τ1, ha1, hJ1, hN1⟩ := hP
  refine lv_istore hx hb dL_law_1230 hl (by decide) rfl (fun ls hl => ?_)
  refine lv_aload_n hx hb dL_law_1232 rfl (lv_at hl 4 rfl) ?_
  refine lw_arg (k := 1) F hJ1.2.2.2.2 hL hi (by decide) rfl (lv_at hl 6 rfl) (lv_at hl 1 rfl) dL_law_1233 dL_law_1234 dL_law_1236 dL_law_1237 dL_law_1238 ?_
  refine lw_mod (H0 := s.heap) (n := 1) (As := [.int (xs (i + 1))]) (rest := []) (v := [.int (if okL σ (xs (i + 1)) ∧ σ 21 (ti (xs (i + 1))) = 120 then f_waiting (up (up σ 0 0 0) 21 (ti (xs (i + 1))) 119) else 0)]) F hJ1 (k_again l g s.heap.size ma hJ1.2.1.2 σ u (xs (i + 1)) hI) gL_law_X7_again rfl rfl rfl (by decide +kernel) ⟨Nat.le_of_ble_eq_true rfl, Nat.le_of_ble_eq_true rfl⟩ rfl hl.1 rfl (Nat.le_of_ble_eq_true rfl) dL_law_1239 ⟨by omega, by omega⟩ rfl (fun H2 locs2 hJ2 hk => ?_)
  exact lw_tailI F (i_again hI (xs (i + 1))) ha1 hJ2 (z_again σ (xs (i + 1))) (fun h => (hN1 h).kept (hk _ hJ1.mO)) (fun h => r_again hI (xs (i + 1)) h) hl dL_law_1242 dL_law_1244 dL_law_1245 dL_law_1248 dL_law_1250 dL_law_1255 dL_law_1257 dL_law_1260 dL_law_1261 dL_law_1262 dL_law_1263 dL_law_1265 dL_law_1266 dL_law_1267 dL_law_1272 (by decide) ⟨by decide, by decide⟩ hf kk
set_option maxHeartbeats 4000000 in
theorem lc_plan (F : LAWF g p s m c b L xs) (hst : l.stackTraces = false) (hL : L ≤ 3072) (hi : i + 6 ≤ L) (hI : INV σ) (hJ : LJ g s.heap.size ad ma ou od σ u τ σ u s.heap H locs) (hf : cells + 20 ≤ room_1.cells ∧ slots + 200 ≤ room_1.slots) (hl : LOC ls b (ad 0 0) (ma 0) ou od i) (kk : KNT p l e s m b below meth c cells slots Q g (ad 0 0) ma ou od i) : W p l e room_1 s m #[Value.ref b] below meth c H locs cells slots Q (F0 m 1275 ls []) := by
  have hx := F.1
  have hb := F.2.1
  refine lv_aload_n hx hb dL_law_1275 rfl (lv_at hl 4 rfl) ?_
  refine lw_arg (k := 1) F hJ.2.2.2.2 hL hi (by decide) rfl (lv_at hl 5 rfl) (lv_at hl 0 rfl) dL_law_1276 dL_law_1277 dL_law_1279 dL_law_1280 dL_law_1281 ?_
  refine lw_arg (k := 2) F hJ.2.2.2.2 hL hi (by decide) rfl (lv_at hl 5 rfl) (lv_at hl 0 rfl) dL_law_1282 dL_law_1283 dL_law_1285 dL_law_1286 dL_law_1287 ?_
  refine lv_aload_n hx hb dL_law_1288 rfl (lv_at hl 2 rfl) ?_
  refine lw_wrap (oc := ou) (n := 4) (t := (t_plan σ (xs (i + 1)) (xs (i + 2)))) (Fσ := (F_plan σ (xs (i + 1)) (xs (i + 2)))) (Fu := u) (N := ANL g ou ((f_inPlan σ (xs (i + 2)) + 1).toInt64)) (As := [.ref (ad 0 0), .int (xs (i + 1)), .int (xs (i + 2)), .ref ou]) (rest := []) F hJ (qL_plan l hst g s.heap.size ad σ u τ hI hJ.1.2 ou hJ.lo1 hJ.hO (xs (i + 1)) (xs (i + 2))) (fun U hU hE => ⟨by rw [hU]; exact hJ.1.1, by rw [hU]; exact hJ.2.2.1.1, hE⟩) (fun U a g9 mk q => ⟨q.1, q.2.1, q.2.2.calling g9 mk a⟩) (fun H1 L1 h1 h2 h3 => pw_mut (fun h => ⟨n_plan h, rfl⟩) (x_plan σ (xs (i + 1)) (xs (i + 2))) hJ h1 h2 h3) gL_law_L_plan rfl rfl rfl (by decide +kernel) ⟨Nat.le_of_ble_eq_true rfl, Nat.le_of_ble_eq_true rfl⟩ rfl hl.1 rfl (Nat.le_of_ble_eq_true rfl) dL_law_1289 ⟨by omega, by omega⟩ (fun H1 locs1 hP => ?_)
  obtain ⟨ad1, τ1, ha1, hJ1, hN1⟩ := hP
  refine lv_istore hx hb dL_law_1292 hl (by decide) rfl (fun ls hl => ?_)
  refine lv_aload_n hx hb dL_law_1294 rfl (lv_at hl 4 rfl) ?_
  refine lw_arg (k := 1) F hJ1.2.2.2.2 hL hi (by decide) rfl (lv_at hl 6 rfl) (lv_at hl 1 rfl) dL_law_1295 dL_law_1296 dL_law_1298 dL_law_1299 dL_law_1300 ?_
  refine lw_arg (k := 2) F hJ1.2.2.2.2 hL hi (by decide) rfl (lv_at hl 6 rfl) (lv_at hl 1 rfl) dL_law_1301 dL_law_1302 dL_law_1304 dL_law_1305 dL_law_1306 ?_
  refine lw_mod (H0 := s.heap) (n := 2) (As := [.int (xs (i + 1)), .int (xs (i + 2))]) (rest := []) (v := [.int (if t_plan σ (xs (i + 1)) (xs (i + 2)) = 0 then f_inPlan (up (up σ 0 0 0) 20 (ti (xs (i + 1))) (xs (i + 2))) (xs (i + 2)) else 0)]) F hJ1 (k_plan l g s.heap.size ma hJ1.2.1.2 σ u (xs (i + 1)) (xs (i + 2)) hI) gL_law_X7_plan rfl rfl rfl (by decide +kernel) ⟨Nat.le_of_ble_eq_true rfl, Nat.le_of_ble_eq_true rfl⟩ rfl hl.1 rfl (Nat.le_of_ble_eq_true rfl) dL_law_1307 ⟨by omega, by omega⟩ rfl (fun H2 locs2 hJ2 hk => ?_)
  exact lw_tailI F (i_plan hI (xs (i + 1)) (xs (i + 2))) ha1 hJ2 (z_plan σ (xs (i + 1)) (xs (i + 2))) (fun h => (hN1 h).kept (hk _ hJ1.mO)) (fun h => r_plan hI (xs (i + 1)) (xs (i + 2)) h) hl dL_law_1310 dL_law_1312 dL_law_1313 dL_law_1316 dL_law_1318 dL_law_1323 dL_law_1325 dL_law_1328 dL_law_1329 dL_law_1330 dL_law_1331 dL_law_1333 dL_law_1334 dL_law_1335 dL_law_1340 (by decide) ⟨by decide, by decide⟩ hf kk
set_option maxHeartbeats 4000000 in
theorem lc_unplan (F : LAWF g p s m c b L xs) (hst : l.stackTraces = false) (hL : L ≤ 3072) (hi : i + 6 ≤ L) (hI : INV σ) (hJ : LJ g s.heap.size ad ma ou od σ u τ σ u s.heap H locs) (hf : cells + 20 ≤ room_1.cells ∧ slots + 200 ≤ room_1.slots) (hl : LOC ls b (ad 0 0) (ma 0) ou od i) (kk : KNT p l e s m b below meth c cells slots Q g (ad 0 0) ma ou od i) : W p l e room_1 s m #[Value.ref b] below meth c H locs cells slots Q (F0 m 1343 ls []) := by
  have hx := F.1
  have hb := F.2.1
  refine lv_aload_n hx hb dL_law_1343 rfl (lv_at hl 4 rfl) ?_
  refine lw_arg (k := 1) F hJ.2.2.2.2 hL hi (by decide) rfl (lv_at hl 5 rfl) (lv_at hl 0 rfl) dL_law_1344 dL_law_1345 dL_law_1347 dL_law_1348 dL_law_1349 ?_
  refine lv_aload_n hx hb dL_law_1350 rfl (lv_at hl 2 rfl) ?_
  refine lw_wrap (oc := ou) (n := 3) (t := (t_unplan σ (xs (i + 1)))) (Fσ := (F_unplan σ (xs (i + 1)))) (Fu := u) (N := ANL g ou ((σ 20 (ti (xs (i + 1)))).toInt64)) (As := [.ref (ad 0 0), .int (xs (i + 1)), .ref ou]) (rest := []) F hJ (qL_unplan l hst g s.heap.size ad σ u τ hI hJ.1.2 ou hJ.lo1 hJ.hO (xs (i + 1))) (fun U hU hE => ⟨by rw [hU]; exact hJ.1.1, by rw [hU]; exact hJ.2.2.1.1, hE⟩) (fun U a g9 mk q => ⟨q.1, q.2.1, q.2.2.calling g9 mk a⟩) (fun H1 L1 h1 h2 h3 => pw_mut (fun h => ⟨n_unplan h, rfl⟩) (x_unplan σ (xs (i + 1))) hJ h1 h2 h3) gL_law_L_unplan rfl rfl rfl (by decide +kernel) ⟨Nat.le_of_ble_eq_true rfl, Nat.le_of_ble_eq_true rfl⟩ rfl hl.1 rfl (Nat.le_of_ble_eq_true rfl) dL_law_1351 ⟨by omega, by omega⟩ (fun H1 locs1 hP => ?_)
  obtain ⟨ad1, τ1, ha1, hJ1, hN1⟩ := hP
  refine lv_istore hx hb dL_law_1354 hl (by decide) rfl (fun ls hl => ?_)
  refine lv_aload_n hx hb dL_law_1356 rfl (lv_at hl 4 rfl) ?_
  refine lw_arg (k := 1) F hJ1.2.2.2.2 hL hi (by decide) rfl (lv_at hl 6 rfl) (lv_at hl 1 rfl) dL_law_1357 dL_law_1358 dL_law_1360 dL_law_1361 dL_law_1362 ?_
  refine lw_mod (H0 := s.heap) (n := 1) (As := [.int (xs (i + 1))]) (rest := []) (v := [.int (if t_unplan σ (xs (i + 1)) = 0 then σ 20 (ti (xs (i + 1))) else 0)]) F hJ1 (k_unplan l g s.heap.size ma hJ1.2.1.2 σ u (xs (i + 1)) hI) gL_law_X7_unplan rfl rfl rfl (by decide +kernel) ⟨Nat.le_of_ble_eq_true rfl, Nat.le_of_ble_eq_true rfl⟩ rfl hl.1 rfl (Nat.le_of_ble_eq_true rfl) dL_law_1363 ⟨by omega, by omega⟩ rfl (fun H2 locs2 hJ2 hk => ?_)
  exact lw_tailI F (i_unplan hI (xs (i + 1))) ha1 hJ2 (z_unplan σ (xs (i + 1))) (fun h => (hN1 h).kept (hk _ hJ1.mO)) (fun h => r_unplan hI (xs (i + 1)) h) hl dL_law_1366 dL_law_1368 dL_law_1369 dL_law_1372 dL_law_1374 dL_law_1379 dL_law_1381 dL_law_1384 dL_law_1385 dL_law_1386 dL_law_1387 dL_law_1389 dL_law_1390 dL_law_1391 dL_law_1396 (by decide) ⟨by decide, by decide⟩ hf kk
set_option maxHeartbeats 4000000 in
theorem lc_planned (F : LAWF g p s m c b L xs) (hst : l.stackTraces = false) (hL : L ≤ 3072) (hi : i + 6 ≤ L) (hI : INV σ) (hJ : LJ g s.heap.size ad ma ou od σ u τ σ u s.heap H locs) (hf : cells + 20 ≤ room_1.cells ∧ slots + 200 ≤ room_1.slots) (hl : LOC ls b (ad 0 0) (ma 0) ou od i) (kk : KNT p l e s m b below meth c cells slots Q g (ad 0 0) ma ou od i) : W p l e room_1 s m #[Value.ref b] below meth c H locs cells slots Q (F0 m 1399 ls []) := by
  have hx := F.1
  have hb := F.2.1
  refine lv_aload_n hx hb dL_law_1399 rfl (lv_at hl 4 rfl) ?_
  refine lw_arg (k := 1) F hJ.2.2.2.2 hL hi (by decide) rfl (lv_at hl 5 rfl) (lv_at hl 0 rfl) dL_law_1400 dL_law_1401 dL_law_1403 dL_law_1404 dL_law_1405 ?_
  refine lv_aload_n hx hb dL_law_1406 rfl (lv_at hl 2 rfl) ?_
  refine lw_wrap (oc := ou) (n := 3) (t := (tV σ (xs (i + 1)))) (Fσ := (up σ 0 0 (tV σ (xs (i + 1))))) (Fu := u) (N := ANL g ou ((f_inPlan σ (xs (i + 1))).toInt64)) (As := [.ref (ad 0 0), .int (xs (i + 1)), .ref ou]) (rest := []) F hJ (qL_planned l hst g s.heap.size ad σ u τ hI hJ.1.2 ou hJ.lo1 hJ.hO (xs (i + 1))) (fun U hU hE => ⟨by rw [hU]; exact hJ.1.1, by rw [hU]; exact hJ.2.2.1.1, hE⟩) (fun U a g9 mk q => ⟨q.1, q.2.1, q.2.2.calling g9 mk a⟩) (fun H1 L1 h1 h2 h3 => pw_ro (SMR.u0 _ _) hJ h1 h2 h3) gL_law_L_planned rfl rfl rfl (by decide +kernel) ⟨Nat.le_of_ble_eq_true rfl, Nat.le_of_ble_eq_true rfl⟩ rfl hl.1 rfl (Nat.le_of_ble_eq_true rfl) dL_law_1407 ⟨by omega, by omega⟩ (fun H1 locs1 hP => ?_)
  obtain ⟨ad1, τ1, ha1, hJ1, hN1⟩ := hP
  refine lv_istore hx hb dL_law_1410 hl (by decide) rfl (fun ls hl => ?_)
  refine lv_aload_n hx hb dL_law_1412 rfl (lv_at hl 4 rfl) ?_
  refine lw_arg (k := 1) F hJ1.2.2.2.2 hL hi (by decide) rfl (lv_at hl 6 rfl) (lv_at hl 1 rfl) dL_law_1413 dL_law_1414 dL_law_1416 dL_law_1417 dL_law_1418 ?_
  refine lw_mod (H0 := s.heap) (n := 1) (As := [.int (xs (i + 1))]) (rest := []) (v := [.int (if okV σ (xs (i + 1)) then f_inPlan σ (xs (i + 1)) else 0)]) F hJ1 (k_planned l g s.heap.size ma hJ1.2.1.2 σ u (xs (i + 1)) hI) gL_law_X7_planned rfl rfl rfl (by decide +kernel) ⟨Nat.le_of_ble_eq_true rfl, Nat.le_of_ble_eq_true rfl⟩ rfl hl.1 rfl (Nat.le_of_ble_eq_true rfl) dL_law_1419 ⟨by omega, by omega⟩ rfl (fun H2 locs2 hJ2 hk => ?_)
  exact lw_tailI F (i_planned hI (xs (i + 1))) ha1 hJ2 (z_planned σ (xs (i + 1))) (fun h => (hN1 h).kept (hk _ hJ1.mO)) (fun h => r_planned hI (xs (i + 1)) h) hl dL_law_1422 dL_law_1424 dL_law_1425 dL_law_1428 dL_law_1430 dL_law_1435 dL_law_1437 dL_law_1440 dL_law_1441 dL_law_1442 dL_law_1443 dL_law_1445 dL_law_1446 dL_law_1447 dL_law_1452 (by decide) ⟨by decide, by decide⟩ hf kk
set_option maxHeartbeats 4000000 in
theorem lc_plannedAt (F : LAWF g p s m c b L xs) (hst : l.stackTraces = false) (hL : L ≤ 3072) (hi : i + 6 ≤ L) (hI : INV σ) (hJ : LJ g s.heap.size ad ma ou od σ u τ σ u s.heap H locs) (hf : cells + 20 ≤ room_1.cells ∧ slots + 200 ≤ room_1.slots) (hl : LOC ls b (ad 0 0) (ma 0) ou od i) (kk : KNT p l e s m b below meth c cells slots Q g (ad 0 0) ma ou od i) : W p l e room_1 s m #[Value.ref b] below meth c H locs cells slots Q (F0 m 1455 ls []) := by
  have hx := F.1
  have hb := F.2.1
  refine lv_aload_n hx hb dL_law_1455 rfl (lv_at hl 4 rfl) ?_
  refine lw_arg (k := 1) F hJ.2.2.2.2 hL hi (by decide) rfl (lv_at hl 5 rfl) (lv_at hl 0 rfl) dL_law_1456 dL_law_1457 dL_law_1459 dL_law_1460 dL_law_1461 ?_
  refine lw_arg (k := 2) F hJ.2.2.2.2 hL hi (by decide) rfl (lv_at hl 5 rfl) (lv_at hl 0 rfl) dL_law_1462 dL_law_1463 dL_law_1465 dL_law_1466 dL_law_1467 ?_
  refine lv_aload_n hx hb dL_law_1468 rfl (lv_at hl 2 rfl) ?_
  refine lw_wrap (oc := ou) (n := 4) (t := (t_plannedAt σ (xs (i + 1)) (xs (i + 2)))) (Fσ := (up σ 0 0 (t_plannedAt σ (xs (i + 1)) (xs (i + 2))))) (Fu := u) (N := ANL g ou ((f_lotAt σ (xs (i + 1)) (xs (i + 2))).toInt64)) (As := [.ref (ad 0 0), .int (xs (i + 1)), .int (xs (i + 2)), .ref ou]) (rest := []) F hJ (qL_plannedAt l hst g s.heap.size ad σ u τ hI hJ.1.2 ou hJ.lo1 hJ.hO (xs (i + 1)) (xs (i + 2))) (fun U hU hE => ⟨by rw [hU]; exact hJ.1.1, by rw [hU]; exact hJ.2.2.1.1, hE⟩) (fun U a g9 mk q => ⟨q.1, q.2.1, q.2.2.calling g9 mk a⟩) (fun H1 L1 h1 h2 h3 => pw_ro (SMR.u0 _ _) hJ h1 h2 h3) gL_law_L_plannedAt rfl rfl rfl (by decide +kernel) ⟨Nat.le_of_ble_eq_true rfl, Nat.le_of_ble_eq_true rfl⟩ rfl hl.1 rfl (Nat.le_of_ble_eq_true rfl) dL_law_1469 ⟨by omega, by omega⟩ (fun H1 locs1 hP => ?_)
  obtain ⟨ad1, τ1, ha1, hJ1, hN1⟩ := hP
  refine lv_istore hx hb dL_law_1472 hl (by decide) rfl (fun ls hl => ?_)
  refine lv_aload_n hx hb dL_law_1474 rfl (lv_at hl 4 rfl) ?_
  refine lw_arg (k := 1) F hJ1.2.2.2.2 hL hi (by decide) rfl (lv_at hl 6 rfl) (lv_at hl 1 rfl) dL_law_1475 dL_law_1476 dL_law_1478 dL_law_1479 dL_law_1480 ?_
  refine lw_arg (k := 2) F hJ1.2.2.2.2 hL hi (by decide) rfl (lv_at hl 6 rfl) (lv_at hl 1 rfl) dL_law_1481 dL_law_1482 dL_law_1484 dL_law_1485 dL_law_1486 ?_
  refine lw_mod (H0 := s.heap) (n := 2) (As := [.int (xs (i + 1)), .int (xs (i + 2))]) (rest := []) (v := [.int (if okV σ (xs (i + 1)) ∧ ¬ f_lotAt σ (xs (i + 1)) (xs (i + 2)) = -1 then f_lotAt σ (xs (i + 1)) (xs (i + 2)) else 0)]) F hJ1 (k_plannedAt l g s.heap.size ma hJ1.2.1.2 σ u (xs (i + 1)) (xs (i + 2)) hI) gL_law_X7_plannedAt rfl rfl rfl (by decide +kernel) ⟨Nat.le_of_ble_eq_true rfl, Nat.le_of_ble_eq_true rfl⟩ rfl hl.1 rfl (Nat.le_of_ble_eq_true rfl) dL_law_1487 ⟨by omega, by omega⟩ rfl (fun H2 locs2 hJ2 hk => ?_)
  exact lw_tailI F (i_plannedAt hI (xs (i + 1)) (xs (i + 2))) ha1 hJ2 (z_plannedAt σ (xs (i + 1)) (xs (i + 2))) (fun h => (hN1 h).kept (hk _ hJ1.mO)) (fun h => r_plannedAt hI (xs (i + 1)) (xs (i + 2)) h) hl dL_law_1490 dL_law_1492 dL_law_1493 dL_law_1496 dL_law_1498 dL_law_1503 dL_law_1505 dL_law_1508 dL_law_1509 dL_law_1510 dL_law_1511 dL_law_1513 dL_law_1514 dL_law_1515 dL_law_1520 (by decide) ⟨by decide, by decide⟩ hf kk
set_option maxHeartbeats 4000000 in
theorem lc_leastHours (F : LAWF g p s m c b L xs) (hst : l.stackTraces = false) (hL : L ≤ 3072) (hi : i + 6 ≤ L) (hI : INV σ) (hJ : LJ g s.heap.size ad ma ou od σ u τ σ u s.heap H locs) (hf : cells + 20 ≤ room_1.cells ∧ slots + 200 ≤ room_1.slots) (hl : LOC ls b (ad 0 0) (ma 0) ou od i) (kk : KNT p l e s m b below meth c cells slots Q g (ad 0 0) ma ou od i) : W p l e room_1 s m #[Value.ref b] below meth c H locs cells slots Q (F0 m 1523 ls []) := by
  have hx := F.1
  have hb := F.2.1
  refine lv_aload_n hx hb dL_law_1523 rfl (lv_at hl 4 rfl) ?_
  refine lw_arg (k := 1) F hJ.2.2.2.2 hL hi (by decide) rfl (lv_at hl 5 rfl) (lv_at hl 0 rfl) dL_law_1524 dL_law_1525 dL_law_1527 dL_law_1528 dL_law_1529 ?_
  refine lv_aload_n hx hb dL_law_1530 rfl (lv_at hl 2 rfl) ?_
  refine lw_wrap (oc := ou) (n := 3) (t := (tV σ (xs (i + 1)))) (Fσ := (F_lh σ (xs (i + 1)))) (Fu := u) (N := ANL g ou ((nI (bestP σ (xs (i + 1))).1).toInt64)) (As := [.ref (ad 0 0), .int (xs (i + 1)), .ref ou]) (rest := []) F hJ (qL_leastHours l hst g s.heap.size ad σ u τ hI hJ.1.2 ou hJ.lo1 hJ.hO (xs (i + 1))) (fun U hU hE => ⟨by rw [hU]; exact hJ.1.1, by rw [hU]; exact hJ.2.2.1.1, hE⟩) (fun U a g9 mk q => ⟨q.1, q.2.1, q.2.2.calling g9 mk a⟩) (fun H1 L1 h1 h2 h3 => pw_plan (s_leastHours σ (xs (i + 1))) hJ h1 h2 h3) gL_law_L_leastHours rfl rfl rfl (by decide +kernel) ⟨Nat.le_of_ble_eq_true rfl, Nat.le_of_ble_eq_true rfl⟩ rfl hl.1 rfl (Nat.le_of_ble_eq_true rfl) dL_law_1531 ⟨by omega, by omega⟩ (fun H1 locs1 hP => ?_)
  obtain ⟨ad1, τ1, ha1, hJ1, hN1⟩ := hP
  refine lv_istore hx hb dL_law_1534 hl (by decide) rfl (fun ls hl => ?_)
  refine lv_aload_n hx hb dL_law_1536 rfl (lv_at hl 4 rfl) ?_
  refine lw_arg (k := 1) F hJ1.2.2.2.2 hL hi (by decide) rfl (lv_at hl 6 rfl) (lv_at hl 1 rfl) dL_law_1537 dL_law_1538 dL_law_1540 dL_law_1541 dL_law_1542 ?_
  refine lw_mod (H0 := s.heap) (n := 1) (As := [.int (xs (i + 1))]) (rest := []) (v := [.int (if okV σ (xs (i + 1)) then nI (bestP (up σ 0 0 0) (xs (i + 1))).1 else 0)]) F hJ1 (k_leastHours l g s.heap.size ma hJ1.2.1.2 σ u (xs (i + 1)) hI) gL_law_X7_leastHours rfl rfl rfl (by decide +kernel) ⟨Nat.le_of_ble_eq_true rfl, Nat.le_of_ble_eq_true rfl⟩ rfl hl.1 rfl (Nat.le_of_ble_eq_true rfl) dL_law_1543 ⟨by omega, by omega⟩ rfl (fun H2 locs2 hJ2 hk => ?_)
  exact lw_tailI F (i_leastHours hI (xs (i + 1))) ha1 hJ2 (z_leastHours σ (xs (i + 1))) (fun h => (hN1 h).kept (hk _ hJ1.mO)) (fun h => r_leastHours hI (xs (i + 1)) h) hl dL_law_1546 dL_law_1548 dL_law_1549 dL_law_1552 dL_law_1554 dL_law_1559 dL_law_1561 dL_law_1564 dL_law_1565 dL_law_1566 dL_law_1567 dL_law_1569 dL_law_1570 dL_law_1571 dL_law_1576 (by decide) ⟨by decide, by decide⟩ hf kk
set_option maxHeartbeats 4000000 in
theorem lc_leastByAll (F : LAWF g p s m c b L xs) (hst : l.stackTraces = false) (hL : L ≤ 3072) (hi : i + 6 ≤ L) (hI : INV σ) (hJ : LJ g s.heap.size ad ma ou od σ u τ σ u s.heap H locs) (hf : cells + 20 ≤ room_1.cells ∧ slots + 200 ≤ room_1.slots) (hl : LOC ls b (ad 0 0) (ma 0) ou od i) (kk : KNT p l e s m b below meth c cells slots Q g (ad 0 0) ma ou od i) : W p l e room_1 s m #[Value.ref b] below meth c H locs cells slots Q (F0 m 1579 ls []) := by
  have hx := F.1
  have hb := F.2.1
  refine lv_aload_n hx hb dL_law_1579 rfl (lv_at hl 4 rfl) ?_
  refine lw_arg (k := 1) F hJ.2.2.2.2 hL hi (by decide) rfl (lv_at hl 5 rfl) (lv_at hl 0 rfl) dL_law_1580 dL_law_1581 dL_law_1583 dL_law_1584 dL_law_1585 ?_
  refine lv_aload_n hx hb dL_law_1586 rfl (lv_at hl 2 rfl) ?_
  refine lw_wrap (oc := ou) (n := 3) (t := (tV σ (xs (i + 1)))) (Fσ := (F_lh σ (xs (i + 1)))) (Fu := u) (N := ANL g ou ((nI (bestP σ (xs (i + 1))).1).toInt64)) (As := [.ref (ad 0 0), .int (xs (i + 1)), .ref ou]) (rest := []) F hJ (qL_leastByAll l hst g s.heap.size ad σ u τ hI hJ.1.2 ou hJ.lo1 hJ.hO (xs (i + 1))) (fun U hU hE => ⟨by rw [hU]; exact hJ.1.1, by rw [hU]; exact hJ.2.2.1.1, hE⟩) (fun U a g9 mk q => ⟨q.1, q.2.1, q.2.2.calling g9 mk a⟩) (fun H1 L1 h1 h2 h3 => pw_plan (s_leastByAll σ (xs (i + 1))) hJ h1 h2 h3) gL_law_L_leastByAll rfl rfl rfl (by decide +kernel) ⟨Nat.le_of_ble_eq_true rfl, Nat.le_of_ble_eq_true rfl⟩ rfl hl.1 rfl (Nat.le_of_ble_eq_true rfl) dL_law_1587 ⟨by omega, by omega⟩ (fun H1 locs1 hP => ?_)
  obtain ⟨ad1, τ1, ha1, hJ1, hN1⟩ := hP
  refine lv_istore hx hb dL_law_1590 hl (by decide) rfl (fun ls hl => ?_)
  refine lv_aload_n hx hb dL_law_1592 rfl (lv_at hl 4 rfl) ?_
  refine lw_arg (k := 1) F hJ1.2.2.2.2 hL hi (by decide) rfl (lv_at hl 6 rfl) (lv_at hl 1 rfl) dL_law_1593 dL_law_1594 dL_law_1596 dL_law_1597 dL_law_1598 ?_
  refine lw_mod (H0 := s.heap) (n := 1) (As := [.int (xs (i + 1))]) (rest := []) (v := [.int (if okV σ (xs (i + 1)) then nI (bestP (up σ 0 0 0) (xs (i + 1))).1 else 0)]) F hJ1 (k_leastByAll l g s.heap.size ma hJ1.2.1.2 σ u (xs (i + 1)) hI) gL_law_X7_leastByAll rfl rfl rfl (by decide +kernel) ⟨Nat.le_of_ble_eq_true rfl, Nat.le_of_ble_eq_true rfl⟩ rfl hl.1 rfl (Nat.le_of_ble_eq_true rfl) dL_law_1599 ⟨by omega, by omega⟩ rfl (fun H2 locs2 hJ2 hk => ?_)
  exact lw_tailI F (i_leastByAll hI (xs (i + 1))) ha1 hJ2 (z_leastByAll σ (xs (i + 1))) (fun h => (hN1 h).kept (hk _ hJ1.mO)) (fun h => r_leastByAll hI (xs (i + 1)) h) hl dL_law_1602 dL_law_1604 dL_law_1605 dL_law_1608 dL_law_1610 dL_law_1615 dL_law_1617 dL_law_1620 dL_law_1621 dL_law_1622 dL_law_1623 dL_law_1625 dL_law_1626 dL_law_1627 dL_law_1632 (by decide) ⟨by decide, by decide⟩ hf kk
set_option maxHeartbeats 4000000 in
theorem lc_firstOf (F : LAWF g p s m c b L xs) (hst : l.stackTraces = false) (hL : L ≤ 3072) (hi : i + 6 ≤ L) (hI : INV σ) (hJ : LJ g s.heap.size ad ma ou od σ u τ σ u s.heap H locs) (hf : cells + 20 ≤ room_1.cells ∧ slots + 200 ≤ room_1.slots) (hl : LOC ls b (ad 0 0) (ma 0) ou od i) (kk : KNT p l e s m b below meth c cells slots Q g (ad 0 0) ma ou od i) : W p l e room_1 s m #[Value.ref b] below meth c H locs cells slots Q (F0 m 1635 ls []) := by
  have hx := F.1
  have hb := F.2.1
  refine lv_aload_n hx hb dL_law_1635 rfl (lv_at hl 4 rfl) ?_
  refine lw_arg (k := 1) F hJ.2.2.2.2 hL hi (by decide) rfl (lv_at hl 5 rfl) (lv_at hl 0 rfl) dL_law_1636 dL_law_1637 dL_law_1639 dL_law_1640 dL_law_1641 ?_
  refine lv_aload_n hx hb dL_law_1642 rfl (lv_at hl 2 rfl) ?_
  refine lw_wrap (oc := ou) (n := 3) (t := (t_firstOf σ (xs (i + 1)))) (Fσ := (F_firstOf σ (xs (i + 1)))) (Fu := u) (N := ANL g ou ((tkP σ (xs (i + 1)) (bestP σ (xs (i + 1))).2).toInt64)) (As := [.ref (ad 0 0), .int (xs (i + 1)), .ref ou]) (rest := []) F hJ (qL_firstOf l hst g s.heap.size ad σ u τ hI hJ.1.2 ou hJ.lo1 hJ.hO (xs (i + 1))) (fun U hU hE => ⟨by rw [hU]; exact hJ.1.1, by rw [hU]; exact hJ.2.2.1.1, hE⟩) (fun U a g9 mk q => ⟨q.1, q.2.1, q.2.2.calling g9 mk a⟩) (fun H1 L1 h1 h2 h3 => pw_plan (s_firstOf σ (xs (i + 1))) hJ h1 h2 h3) gL_law_L_firstOf rfl rfl rfl (by decide +kernel) ⟨Nat.le_of_ble_eq_true rfl, Nat.le_of_ble_eq_true rfl⟩ rfl hl.1 rfl (Nat.le_of_ble_eq_true rfl) dL_law_1643 ⟨by omega, by omega⟩ (fun H1 locs1 hP => ?_)
  obtain ⟨ad1, τ1, ha1, hJ1, hN1⟩ := hP
  refine lv_istore hx hb dL_law_1646 hl (by decide) rfl (fun ls hl => ?_)
  refine lv_aload_n hx hb dL_law_1648 rfl (lv_at hl 4 rfl) ?_
  refine lw_arg (k := 1) F hJ1.2.2.2.2 hL hi (by decide) rfl (lv_at hl 6 rfl) (lv_at hl 1 rfl) dL_law_1649 dL_law_1650 dL_law_1652 dL_law_1653 dL_law_1654 ?_
  refine lw_mod (H0 := s.heap) (n := 1) (As := [.int (xs (i + 1))]) (rest := []) (v := [.int (if t_firstOf σ (xs (i + 1)) = 0 then tkP (up σ 0 0 0) (xs (i + 1)) (bestP (up σ 0 0 0) (xs (i + 1))).2 else 0)]) F hJ1 (k_firstOf l g s.heap.size ma hJ1.2.1.2 σ u (xs (i + 1)) hI) gL_law_X7_firstOf rfl rfl rfl (by decide +kernel) ⟨Nat.le_of_ble_eq_true rfl, Nat.le_of_ble_eq_true rfl⟩ rfl hl.1 rfl (Nat.le_of_ble_eq_true rfl) dL_law_1655 ⟨by omega, by omega⟩ rfl (fun H2 locs2 hJ2 hk => ?_)
  exact lw_tailI F (i_firstOf hI (xs (i + 1))) ha1 hJ2 (z_firstOf σ (xs (i + 1))) (fun h => (hN1 h).kept (hk _ hJ1.mO)) (fun h => r_firstOf hI (xs (i + 1)) h) hl dL_law_1658 dL_law_1660 dL_law_1661 dL_law_1664 dL_law_1666 dL_law_1671 dL_law_1673 dL_law_1676 dL_law_1677 dL_law_1678 dL_law_1679 dL_law_1681 dL_law_1682 dL_law_1683 dL_law_1688 (by decide) ⟨by decide, by decide⟩ hf kk
end LAWC
