/-! more words -/
set_option maxRecDepth 100000 in
theorem wsL_law0_r21_in : ∀ w ∈ wsL_law0_r21, w ∈ lw_tbl := mem_pl [605, 606, 607, 608, 609, 610, 612, 11, 613, 1162, 1163, 1164, 1165, 1166, 1168, 33, 1169, 614, 615, 616, 617, 618, 619, 620] (by decide +kernel)
set_option maxRecDepth 100000 in
theorem wsL_law0_r22_in : ∀ w ∈ wsL_law0_r22, w ∈ lw_tbl := mem_pl [621, 623, 12, 624, 1170, 1171, 1172, 1173, 1174, 1176, 34, 1177, 625, 626, 627, 628, 629, 630, 631, 442, 1178, 1179, 1180, 1181] (by decide +kernel)
set_option maxRecDepth 100000 in
theorem wsL_law0_r23_in : ∀ w ∈ wsL_law0_r23, w ∈ lw_tbl := mem_pl [632, 633, 634, 635, 636, 637, 638, 1182, 1183, 1184, 1185, 639, 640, 641, 642, 675, 676, 677, 678, 679, 61, 396, 1186, 1187] (by decide +kernel)
set_option maxRecDepth 100000 in
theorem wsL_law0_r24_in : ∀ w ∈ wsL_law0_r24, w ∈ lw_tbl := mem_pl [1188, 1189, 1190, 1192, 35, 1193, 694, 695, 696, 697, 698, 699, 700, 701, 703, 13, 704, 705, 706, 707, 708, 91, 446, 92] (by decide +kernel)
set_option maxRecDepth 100000 in
theorem wsL_law0_r25_in : ∀ w ∈ wsL_law0_r25, w ∈ lw_tbl := mem_pl [449, 93, 709, 710, 711, 712, 395, 398, 357, 280, 259, 353, 713, 714, 715, 716, 717, 718, 719, 720, 721, 722, 723, 724] (by decide +kernel)
set_option maxRecDepth 100000 in
theorem wsL_law0_r26_in : ∀ w ∈ wsL_law0_r26, w ∈ lw_tbl := mem_pl [725, 727, 14, 728, 1194, 1195, 1196, 1197, 1198, 1200, 36, 1201, 1202, 1204, 37, 1205, 1206, 1208, 38, 1209, 1210, 1212, 39, 1213] (by decide +kernel)
set_option maxRecDepth 100000 in
theorem wsL_law0_r27_in : ∀ w ∈ wsL_law0_r27, w ∈ lw_tbl := mem_pl [731, 732, 733, 734, 735, 736, 737, 738, 739, 740, 741, 742, 743, 744, 745, 746, 747, 748, 1214, 1215, 1216, 1217, 1218, 749] (by decide +kernel)
set_option maxRecDepth 100000 in
theorem wsL_law0_r28_in : ∀ w ∈ wsL_law0_r28, w ∈ lw_tbl := mem_pl [750, 751, 752, 753, 754, 755, 756, 757, 758, 759, 760, 761, 763, 15, 764, 1219, 1220, 1221, 1222, 145, 146, 147, 148, 1223] (by decide +kernel)
set_option maxRecDepth 100000 in
theorem wsL_law0_r29_in : ∀ w ∈ wsL_law0_r29, w ∈ lw_tbl := mem_pl [1224, 1225, 1226, 149, 150, 151, 152, 1227, 1228, 1229, 1230, 765, 766, 767, 768, 769, 770, 771, 1231, 1232, 1233, 1234, 772, 773] (by decide +kernel)
set_option maxRecDepth 100000 in
theorem wsL_law0_r30_in : ∀ w ∈ wsL_law0_r30, w ∈ lw_tbl := mem_pl [774, 775, 776, 777, 778, 264, 267, 779, 781, 16, 782, 1235, 1236, 1237, 1238, 1239, 1241, 40, 1242, 783, 784, 785, 786, 787] (by decide +kernel)
