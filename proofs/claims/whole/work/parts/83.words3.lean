/-! more words -/
set_option maxRecDepth 100000 in
theorem wsL_law0_r31_in : ∀ w ∈ wsL_law0_r31, w ∈ lw_tbl := mem_pl [788, 789, 1243, 1244, 1245, 1246, 790, 791, 792, 793, 794, 795, 796, 1247, 1248, 1249, 1250, 797, 798, 799, 800, 801, 802, 803] (by decide +kernel)
set_option maxRecDepth 100000 in
theorem wsL_law0_r32_in : ∀ w ∈ wsL_law0_r32, w ∈ lw_tbl := mem_pl [1251, 1252, 1253, 1254, 804, 805, 806, 807, 808, 809, 810, 1255, 1256, 1257, 1258, 811, 812, 813, 814, 815, 816, 817, 818, 820] (by decide +kernel)
set_option maxRecDepth 100000 in
theorem wsL_law0_r33_in : ∀ w ∈ wsL_law0_r33, w ∈ lw_tbl := mem_pl [17, 821, 822, 823, 824, 825, 260, 263, 266, 1259, 1260, 1261, 1262, 1263, 1265, 41, 1266, 826, 827, 828, 829, 830, 831, 832] (by decide +kernel)
set_option maxRecDepth 100000 in
theorem wsL_law0_r34_in : ∀ w ∈ wsL_law0_r34, w ∈ lw_tbl := mem_pl [1267, 1268, 1269, 1270, 833, 834, 835, 836, 837, 838, 839, 1271, 1272, 1273, 1274, 840, 841, 842, 843, 844, 845, 846, 1275, 1276] (by decide +kernel)
set_option maxRecDepth 100000 in
theorem wsL_law0_r35_in : ∀ w ∈ wsL_law0_r35, w ∈ lw_tbl := mem_pl [1277, 1278, 847, 848, 849, 850, 851, 852, 853, 1279, 1280, 1281, 1282, 854, 855, 856, 857, 858, 859, 860, 1283, 1284, 1285, 1286] (by decide +kernel)
set_option maxRecDepth 100000 in
theorem wsL_law0_r36_in : ∀ w ∈ wsL_law0_r36, w ∈ lw_tbl := mem_pl [861, 862, 863, 864, 865, 866, 867, 1287, 1288, 1289, 1290, 868, 869, 870, 871, 872, 873, 874, 1291, 1292, 1293, 1294, 875, 876] (by decide +kernel)
set_option maxRecDepth 100000 in
theorem wsL_law0_r37_in : ∀ w ∈ wsL_law0_r37, w ∈ lw_tbl := mem_pl [877, 878, 879, 880, 881, 882, 884, 18, 885, 362, 1295, 1296, 1297, 1298, 1299, 1301, 42, 1302, 886, 887, 888, 889, 890, 891] (by decide +kernel)
set_option maxRecDepth 100000 in
theorem wsL_law0_r38_in : ∀ w ∈ wsL_law0_r38, w ∈ lw_tbl := mem_pl [892, 893, 895, 19, 896, 364, 1303, 1304, 1305, 1306, 1307, 1309, 43, 1310, 897, 898, 899, 900, 901, 902, 903, 1311, 1312, 1313] (by decide +kernel)
set_option maxRecDepth 100000 in
theorem wsL_law0_r39_in : ∀ w ∈ wsL_law0_r39, w ∈ lw_tbl := mem_pl [1314, 904, 905, 906, 907, 908, 909, 910, 1315, 1316, 1317, 1318, 911, 912, 913, 914, 928, 929, 930, 931, 932, 64, 1319, 1320] (by decide +kernel)
set_option maxRecDepth 100000 in
theorem wsL_law0_r40_in : ∀ w ∈ wsL_law0_r40, w ∈ lw_tbl := mem_pl [1321, 1322, 937, 938, 939, 940, 941, 942, 943, 1323, 1324, 1325, 1326] (by decide +kernel)
