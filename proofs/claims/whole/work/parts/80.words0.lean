/-! ===== the law's words stand among the tables' words ===== -/
theorem mem_pl {big ws : List Cond} (ps : List Nat) (hp : ws = ps.filterMap (fun i => big[i]?)) : ∀ w ∈ ws, w ∈ big := by
  intro w hw
  rw [hp] at hw
  obtain ⟨i, -, hi⟩ := List.mem_filterMap.mp hw
  exact List.mem_of_getElem? hi
set_option maxRecDepth 100000 in
theorem wsL_law0_r1_in : ∀ w ∈ wsL_law0_r1, w ∈ lw_tbl := mem_pl [65, 66, 45, 944, 945, 47, 110, 1327, 67, 68, 69, 70, 71, 72, 73, 111, 75, 112, 77, 113, 79, 114, 109, 115] (by decide +kernel)
set_option maxRecDepth 100000 in
theorem wsL_law0_r2_in : ∀ w ∈ wsL_law0_r2, w ∈ lw_tbl := mem_pl [116, 81, 82, 46, 117, 83, 84, 85, 86, 87, 88, 89, 90, 946, 947, 948, 949, 955, 956, 957, 958, 959, 960, 961] (by decide +kernel)
set_option maxRecDepth 100000 in
theorem wsL_law0_r3_in : ∀ w ∈ wsL_law0_r3, w ∈ lw_tbl := mem_pl [962, 963, 964, 965, 966, 967, 968, 969, 970, 1038, 971, 972, 973, 974, 975, 976, 977, 978, 153, 154, 44, 155, 156, 157] (by decide +kernel)
set_option maxRecDepth 100000 in
theorem wsL_law0_r4_in : ∀ w ∈ wsL_law0_r4, w ∈ lw_tbl := mem_pl [158, 159, 160, 161, 236, 52, 118, 251, 53, 252, 253, 54, 162, 163, 164, 165, 166, 167, 168, 51, 254, 255, 256, 257] (by decide +kernel)
set_option maxRecDepth 100000 in
theorem wsL_law0_r5_in : ∀ w ∈ wsL_law0_r5, w ∈ lw_tbl := mem_pl [258, 262, 265, 275, 276, 277, 278, 279, 283, 1043, 1044, 1045, 1046, 951, 950, 1047, 1048, 1049, 1050, 1051, 1052, 1053, 1055, 20] (by decide +kernel)
set_option maxRecDepth 100000 in
theorem wsL_law0_r6_in : ∀ w ∈ wsL_law0_r6, w ∈ lw_tbl := mem_pl [1056, 1039, 1040, 1041, 1042, 291, 292, 293, 294, 295, 296, 297, 298, 285, 299, 301, 1, 302, 303, 55, 318, 319, 320, 1057] (by decide +kernel)
set_option maxRecDepth 100000 in
theorem wsL_law0_r7_in : ∀ w ∈ wsL_law0_r7, w ∈ lw_tbl := mem_pl [1058, 1059, 1060, 321, 322, 323, 324, 325, 326, 327, 328, 329, 1061, 1062, 1063, 1064, 1065, 1066, 330, 331, 332, 333, 334, 335] (by decide +kernel)
set_option maxRecDepth 100000 in
theorem wsL_law0_r8_in : ∀ w ∈ wsL_law0_r8, w ∈ lw_tbl := mem_pl [336, 1067, 1068, 1069, 1070, 1071, 1073, 21, 1074, 337, 338, 339, 340, 341, 342, 343, 119, 347, 56, 344, 345, 346, 348, 349] (by decide +kernel)
set_option maxRecDepth 100000 in
theorem wsL_law0_r9_in : ∀ w ∈ wsL_law0_r9, w ∈ lw_tbl := mem_pl [350, 351, 352, 355, 359, 361, 363, 1075, 1076, 1077, 1078, 952, 376, 377, 378, 379, 380, 381, 382, 120, 387, 57, 383, 385] (by decide +kernel)
set_option maxRecDepth 100000 in
theorem wsL_law0_r10_in : ∀ w ∈ wsL_law0_r10, w ∈ lw_tbl := mem_pl [2, 386, 388, 389, 390, 391, 394, 397, 400, 392, 402, 404, 393, 1079, 1080, 1081, 1082, 953, 1083, 1085, 22, 1086, 429, 430] (by decide +kernel)
