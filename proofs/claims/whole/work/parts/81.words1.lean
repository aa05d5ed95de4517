/-! more words -/
set_option maxRecDepth 100000 in
theorem wsL_law0_r11_in : ∀ w ∈ wsL_law0_r11, w ∈ lw_tbl := mem_pl [431, 432, 433, 434, 435, 121, 436, 58, 437, 438, 439, 440, 441, 443, 445, 448, 1087, 1088, 1089, 1090, 954, 466, 467, 468] (by decide +kernel)
set_option maxRecDepth 100000 in
theorem wsL_law0_r12_in : ∀ w ∈ wsL_law0_r12, w ∈ lw_tbl := mem_pl [469, 470, 471, 472, 473, 475, 3, 476, 477, 478, 479, 480, 356, 284, 1091, 1092, 1093, 1094, 1095, 1097, 23, 1098, 1099, 1101] (by decide +kernel)
set_option maxRecDepth 100000 in
theorem wsL_law0_r13_in : ∀ w ∈ wsL_law0_r13, w ∈ lw_tbl := mem_pl [24, 1102, 481, 482, 483, 484, 485, 486, 487, 488, 489, 490, 491, 1103, 1104, 1105, 1106, 1107, 1109, 25, 1110, 492, 493, 494] (by decide +kernel)
set_option maxRecDepth 100000 in
theorem wsL_law0_r14_in : ∀ w ∈ wsL_law0_r14, w ∈ lw_tbl := mem_pl [495, 496, 497, 498, 499, 501, 4, 502, 503, 505, 5, 506, 405, 401, 444, 447, 399, 358, 282, 261, 450, 354, 507, 508] (by decide +kernel)
set_option maxRecDepth 100000 in
theorem wsL_law0_r15_in : ∀ w ∈ wsL_law0_r15, w ∈ lw_tbl := mem_pl [509, 510, 511, 512, 513, 515, 6, 516, 1111, 1112, 1113, 1114, 1115, 1117, 26, 1118, 1119, 1121, 27, 1122, 1123, 1125, 28, 1126] (by decide +kernel)
set_option maxRecDepth 100000 in
theorem wsL_law0_r16_in : ∀ w ∈ wsL_law0_r16, w ∈ lw_tbl := mem_pl [517, 518, 519, 520, 521, 522, 523, 524, 525, 59, 451, 403, 406, 407, 452, 408, 409, 540, 542, 7, 543, 544, 545, 546] (by decide +kernel)
set_option maxRecDepth 100000 in
theorem wsL_law0_r17_in : ∀ w ∈ wsL_law0_r17, w ∈ lw_tbl := mem_pl [547, 1127, 1128, 1129, 1130, 548, 549, 550, 551, 552, 553, 554, 1131, 1132, 1133, 1134, 555, 556, 557, 558, 559, 560, 561, 562] (by decide +kernel)
set_option maxRecDepth 100000 in
theorem wsL_law0_r18_in : ∀ w ∈ wsL_law0_r18, w ∈ lw_tbl := mem_pl [564, 8, 565, 566, 568, 9, 569, 360, 570, 571, 572, 573, 281, 574, 575, 576, 577, 578, 579, 60, 580, 581, 583, 10] (by decide +kernel)
set_option maxRecDepth 100000 in
theorem wsL_law0_r19_in : ∀ w ∈ wsL_law0_r19, w ∈ lw_tbl := mem_pl [584, 590, 591, 592, 585, 586, 587, 588, 589, 1135, 1136, 1137, 1138, 1139, 1141, 29, 1142, 1143, 1145, 30, 1146, 1147, 1149, 31] (by decide +kernel)
set_option maxRecDepth 100000 in
theorem wsL_law0_r20_in : ∀ w ∈ wsL_law0_r20, w ∈ lw_tbl := mem_pl [1150, 1151, 1152, 1153, 1154, 1156, 32, 1157, 593, 594, 595, 596, 597, 598, 599, 600, 601, 602, 1158, 1159, 1160, 1161, 603, 604] (by decide +kernel)
