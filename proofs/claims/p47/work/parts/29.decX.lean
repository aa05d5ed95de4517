set_option maxRecDepth 20000 in
theorem ggX0_init_X4_init : GoodIn wsX0_init wsX4_init := goodIn_r _ [14, 15, 2, 3, 16, 17, 18, 28, 29, 30] (by decide +kernel) (by decide +kernel)
set_option maxRecDepth 20000 in
theorem gX0_init_X4_init : GoodIn wsX0_init (wsX4_init) := ggX0_init_X4_init
theorem dX0_init_0 : decode cX0_init 0 = .ok (.aload_n 0, 1) := by decide +kernel
theorem dX0_init_1 : decode cX0_init 1 = .ok (.invokespecial 3, 3) := by decide +kernel
theorem dX0_init_4 : decode cX0_init 4 = .ok (.aload_n 0, 1) := by decide +kernel
theorem dX0_init_5 : decode cX0_init 5 = .ok (.iload_n 1, 1) := by decide +kernel
theorem dX0_init_6 : decode cX0_init 6 = .ok (.putfield 9, 3) := by decide +kernel
theorem dX0_init_9 : decode cX0_init 9 = .ok (.aload_n 0, 1) := by decide +kernel
theorem dX0_init_10 : decode cX0_init 10 = .ok (.aload_n 2, 1) := by decide +kernel
theorem dX0_init_11 : decode cX0_init 11 = .ok (.putfield 15, 3) := by decide +kernel
theorem dX0_init_14 : decode cX0_init 14 = .ok (.aload_n 0, 1) := by decide +kernel
theorem dX0_init_15 : decode cX0_init 15 = .ok (.iload_n 3, 1) := by decide +kernel
theorem dX0_init_16 : decode cX0_init 16 = .ok (.putfield 19, 3) := by decide +kernel
theorem dX0_init_19 : decode cX0_init 19 = .ok (.aload_n 0, 1) := by decide +kernel
theorem dX0_init_20 : decode cX0_init 20 = .ok (.new 22, 3) := by decide +kernel
theorem dX0_init_23 : decode cX0_init 23 = .ok (.dup, 1) := by decide +kernel
theorem dX0_init_24 : decode cX0_init 24 = .ok (.iconst 0, 1) := by decide +kernel
theorem dX0_init_25 : decode cX0_init 25 = .ok (.iconst 0, 1) := by decide +kernel
theorem dX0_init_26 : decode cX0_init 26 = .ok (.iconst 0, 1) := by decide +kernel
theorem dX0_init_27 : decode cX0_init 27 = .ok (.invokespecial 24, 3) := by decide +kernel
theorem dX0_init_30 : decode cX0_init 30 = .ok (.putfield 27, 3) := by decide +kernel
theorem dX0_init_33 : decode cX0_init 33 = .ok (.aload_n 0, 1) := by decide +kernel
theorem dX0_init_34 : decode cX0_init 34 = .ok (.bipush 119, 2) := by decide +kernel
theorem dX0_init_36 : decode cX0_init 36 = .ok (.putfield 31, 3) := by decide +kernel
theorem dX0_init_39 : decode cX0_init 39 = .ok (.return_, 1) := by decide +kernel
theorem dX0_dyeingHours_0 : decode cX0_dyeingHours 0 = .ok (.iconst 4, 1) := by decide +kernel
theorem dX0_dyeingHours_1 : decode cX0_dyeingHours 1 = .ok (.aload_n 0, 1) := by decide +kernel
theorem dX0_dyeingHours_2 : decode cX0_dyeingHours 2 = .ok (.getfield 19, 3) := by decide +kernel
theorem dX0_dyeingHours_5 : decode cX0_dyeingHours 5 = .ok (.bipush 49, 2) := by decide +kernel
theorem dX0_dyeingHours_7 : decode cX0_dyeingHours 7 = .ok (.iadd, 1) := by decide +kernel
theorem dX0_dyeingHours_8 : decode cX0_dyeingHours 8 = .ok (.bipush 50, 2) := by decide +kernel
theorem dX0_dyeingHours_10 : decode cX0_dyeingHours 10 = .ok (.idiv, 1) := by decide +kernel
theorem dX0_dyeingHours_11 : decode cX0_dyeingHours 11 = .ok (.iadd, 1) := by decide +kernel
theorem dX0_dyeingHours_12 : decode cX0_dyeingHours 12 = .ok (.ireturn, 1) := by decide +kernel
theorem dX0_gramsNeeded_0 : decode cX0_gramsNeeded 0 = .ok (.aload_n 0, 1) := by decide +kernel
theorem dX0_gramsNeeded_1 : decode cX0_gramsNeeded 1 = .ok (.getfield 15, 3) := by decide +kernel
theorem dX0_gramsNeeded_4 : decode cX0_gramsNeeded 4 = .ok (.getfield 35, 3) := by decide +kernel
theorem dX0_gramsNeeded_7 : decode cX0_gramsNeeded 7 = .ok (.getfield 41, 3) := by decide +kernel
theorem dX0_gramsNeeded_10 : decode cX0_gramsNeeded 10 = .ok (.iload_n 1, 1) := by decide +kernel
theorem dX0_gramsNeeded_11 : decode cX0_gramsNeeded 11 = .ok (.iaload, 1) := by decide +kernel
theorem dX0_gramsNeeded_12 : decode cX0_gramsNeeded 12 = .ok (.aload_n 0, 1) := by decide +kernel
theorem dX0_gramsNeeded_13 : decode cX0_gramsNeeded 13 = .ok (.getfield 19, 3) := by decide +kernel
theorem dX0_gramsNeeded_16 : decode cX0_gramsNeeded 16 = .ok (.imul, 1) := by decide +kernel
theorem dX0_gramsNeeded_17 : decode cX0_gramsNeeded 17 = .ok (.bipush 99, 2) := by decide +kernel
theorem dX0_gramsNeeded_19 : decode cX0_gramsNeeded 19 = .ok (.iadd, 1) := by decide +kernel
theorem dX0_gramsNeeded_20 : decode cX0_gramsNeeded 20 = .ok (.bipush 100, 2) := by decide +kernel
theorem dX0_gramsNeeded_22 : decode cX0_gramsNeeded 22 = .ok (.idiv, 1) := by decide +kernel
theorem dX0_gramsNeeded_23 : decode cX0_gramsNeeded 23 = .ok (.ireturn, 1) := by decide +kernel
set_option maxRecDepth 20000 in
theorem ggX0_distanceFromRecipe_X4_distanceTo : GoodIn wsX0_distanceFromRecipe wsX4_distanceTo := goodIn_r _ [9, 10, 11, 12, 13, 14, 15, 16, 33, 34, 35] (by decide +kernel) (by decide +kernel)
set_option maxRecDepth 20000 in
theorem gX0_distanceFromRecipe_X4_distanceTo : GoodIn wsX0_distanceFromRecipe (wsV RX0 48 RX4 yX4_distanceTo wsX4_distanceTo) := goodIn_app (goodIn_of _ (by decide +kernel)) ggX0_distanceFromRecipe_X4_distanceTo
theorem dX0_distanceFromRecipe_0 : decode cX0_distanceFromRecipe 0 = .ok (.aload_n 0, 1) := by decide +kernel
theorem dX0_distanceFromRecipe_1 : decode cX0_distanceFromRecipe 1 = .ok (.getfield 27, 3) := by decide +kernel
theorem dX0_distanceFromRecipe_4 : decode cX0_distanceFromRecipe 4 = .ok (.aload_n 0, 1) := by decide +kernel
theorem dX0_distanceFromRecipe_5 : decode cX0_distanceFromRecipe 5 = .ok (.getfield 15, 3) := by decide +kernel
theorem dX0_distanceFromRecipe_8 : decode cX0_distanceFromRecipe 8 = .ok (.getfield 35, 3) := by decide +kernel
theorem dX0_distanceFromRecipe_11 : decode cX0_distanceFromRecipe 11 = .ok (.getfield 47, 3) := by decide +kernel
theorem dX0_distanceFromRecipe_14 : decode cX0_distanceFromRecipe 14 = .ok (.invokevirtual 48, 3) := by decide +kernel
theorem dX0_distanceFromRecipe_17 : decode cX0_distanceFromRecipe 17 = .ok (.ireturn, 1) := by decide +kernel
theorem dX0_isPassedOf_0 : decode cX0_isPassedOf 0 = .ok (.aload_n 0, 1) := by decide +kernel
theorem dX0_isPassedOf_1 : decode cX0_isPassedOf 1 = .ok (.getfield 15, 3) := by decide +kernel
theorem dX0_isPassedOf_4 : decode cX0_isPassedOf 4 = .ok (.aload_n 1, 1) := by decide +kernel
theorem dX0_isPassedOf_5 : decode cX0_isPassedOf 5 = .ok (.if_acmp .ne 16, 3) := by decide +kernel
theorem dX0_isPassedOf_8 : decode cX0_isPassedOf 8 = .ok (.aload_n 0, 1) := by decide +kernel
theorem dX0_isPassedOf_9 : decode cX0_isPassedOf 9 = .ok (.getfield 31, 3) := by decide +kernel
theorem dX0_isPassedOf_12 : decode cX0_isPassedOf 12 = .ok (.bipush 112, 2) := by decide +kernel
theorem dX0_isPassedOf_14 : decode cX0_isPassedOf 14 = .ok (.if_icmp .ne 7, 3) := by decide +kernel
theorem dX0_isPassedOf_17 : decode cX0_isPassedOf 17 = .ok (.iconst 1, 1) := by decide +kernel
theorem dX0_isPassedOf_18 : decode cX0_isPassedOf 18 = .ok (.goto 4, 3) := by decide +kernel
theorem dX0_isPassedOf_21 : decode cX0_isPassedOf 21 = .ok (.iconst 0, 1) := by decide +kernel
theorem dX0_isPassedOf_22 : decode cX0_isPassedOf 22 = .ok (.ireturn, 1) := by decide +kernel
theorem dX0_comesBeforeByLight_0 : decode cX0_comesBeforeByLight 0 = .ok (.aload_n 0, 1) := by decide +kernel
theorem dX0_comesBeforeByLight_1 : decode cX0_comesBeforeByLight 1 = .ok (.getfield 27, 3) := by decide +kernel
theorem dX0_comesBeforeByLight_4 : decode cX0_comesBeforeByLight 4 = .ok (.getfield 52, 3) := by decide +kernel
theorem dX0_comesBeforeByLight_7 : decode cX0_comesBeforeByLight 7 = .ok (.aload_n 1, 1) := by decide +kernel
theorem dX0_comesBeforeByLight_8 : decode cX0_comesBeforeByLight 8 = .ok (.getfield 27, 3) := by decide +kernel
theorem dX0_comesBeforeByLight_11 : decode cX0_comesBeforeByLight 11 = .ok (.getfield 52, 3) := by decide +kernel
theorem dX0_comesBeforeByLight_14 : decode cX0_comesBeforeByLight 14 = .ok (.if_icmp .eq 26, 3) := by decide +kernel
theorem dX0_comesBeforeByLight_17 : decode cX0_comesBeforeByLight 17 = .ok (.aload_n 0, 1) := by decide +kernel
theorem dX0_comesBeforeByLight_18 : decode cX0_comesBeforeByLight 18 = .ok (.getfield 27, 3) := by decide +kernel
theorem dX0_comesBeforeByLight_21 : decode cX0_comesBeforeByLight 21 = .ok (.getfield 52, 3) := by decide +kernel
theorem dX0_comesBeforeByLight_24 : decode cX0_comesBeforeByLight 24 = .ok (.aload_n 1, 1) := by decide +kernel
theorem dX0_comesBeforeByLight_25 : decode cX0_comesBeforeByLight 25 = .ok (.getfield 27, 3) := by decide +kernel
theorem dX0_comesBeforeByLight_28 : decode cX0_comesBeforeByLight 28 = .ok (.getfield 52, 3) := by decide +kernel
theorem dX0_comesBeforeByLight_31 : decode cX0_comesBeforeByLight 31 = .ok (.if_icmp .le 7, 3) := by decide +kernel
theorem dX0_comesBeforeByLight_34 : decode cX0_comesBeforeByLight 34 = .ok (.iconst 1, 1) := by decide +kernel
theorem dX0_comesBeforeByLight_35 : decode cX0_comesBeforeByLight 35 = .ok (.goto 4, 3) := by decide +kernel
theorem dX0_comesBeforeByLight_38 : decode cX0_comesBeforeByLight 38 = .ok (.iconst 0, 1) := by decide +kernel
theorem dX0_comesBeforeByLight_39 : decode cX0_comesBeforeByLight 39 = .ok (.ireturn, 1) := by decide +kernel
theorem dX0_comesBeforeByLight_40 : decode cX0_comesBeforeByLight 40 = .ok (.aload_n 0, 1) := by decide +kernel
theorem dX0_comesBeforeByLight_41 : decode cX0_comesBeforeByLight 41 = .ok (.getfield 27, 3) := by decide +kernel
theorem dX0_comesBeforeByLight_44 : decode cX0_comesBeforeByLight 44 = .ok (.getfield 55, 3) := by decide +kernel
theorem dX0_comesBeforeByLight_47 : decode cX0_comesBeforeByLight 47 = .ok (.aload_n 1, 1) := by decide +kernel
theorem dX0_comesBeforeByLight_48 : decode cX0_comesBeforeByLight 48 = .ok (.getfield 27, 3) := by decide +kernel
theorem dX0_comesBeforeByLight_51 : decode cX0_comesBeforeByLight 51 = .ok (.getfield 55, 3) := by decide +kernel
theorem dX0_comesBeforeByLight_54 : decode cX0_comesBeforeByLight 54 = .ok (.if_icmp .eq 26, 3) := by decide +kernel
theorem dX0_comesBeforeByLight_57 : decode cX0_comesBeforeByLight 57 = .ok (.aload_n 0, 1) := by decide +kernel
theorem dX0_comesBeforeByLight_58 : decode cX0_comesBeforeByLight 58 = .ok (.getfield 27, 3) := by decide +kernel
theorem dX0_comesBeforeByLight_61 : decode cX0_comesBeforeByLight 61 = .ok (.getfield 55, 3) := by decide +kernel
theorem dX0_comesBeforeByLight_64 : decode cX0_comesBeforeByLight 64 = .ok (.aload_n 1, 1) := by decide +kernel
theorem dX0_comesBeforeByLight_65 : decode cX0_comesBeforeByLight 65 = .ok (.getfield 27, 3) := by decide +kernel
theorem dX0_comesBeforeByLight_68 : decode cX0_comesBeforeByLight 68 = .ok (.getfield 55, 3) := by decide +kernel
theorem dX0_comesBeforeByLight_71 : decode cX0_comesBeforeByLight 71 = .ok (.if_icmp .ge 7, 3) := by decide +kernel
theorem dX0_comesBeforeByLight_74 : decode cX0_comesBeforeByLight 74 = .ok (.iconst 1, 1) := by decide +kernel
theorem dX0_comesBeforeByLight_75 : decode cX0_comesBeforeByLight 75 = .ok (.goto 4, 3) := by decide +kernel
theorem dX0_comesBeforeByLight_78 : decode cX0_comesBeforeByLight 78 = .ok (.iconst 0, 1) := by decide +kernel
theorem dX0_comesBeforeByLight_79 : decode cX0_comesBeforeByLight 79 = .ok (.ireturn, 1) := by decide +kernel
theorem dX0_comesBeforeByLight_80 : decode cX0_comesBeforeByLight 80 = .ok (.aload_n 0, 1) := by decide +kernel
theorem dX0_comesBeforeByLight_81 : decode cX0_comesBeforeByLight 81 = .ok (.getfield 27, 3) := by decide +kernel
theorem dX0_comesBeforeByLight_84 : decode cX0_comesBeforeByLight 84 = .ok (.getfield 58, 3) := by decide +kernel
theorem dX0_comesBeforeByLight_87 : decode cX0_comesBeforeByLight 87 = .ok (.aload_n 1, 1) := by decide +kernel
theorem dX0_comesBeforeByLight_88 : decode cX0_comesBeforeByLight 88 = .ok (.getfield 27, 3) := by decide +kernel
theorem dX0_comesBeforeByLight_91 : decode cX0_comesBeforeByLight 91 = .ok (.getfield 58, 3) := by decide +kernel
theorem dX0_comesBeforeByLight_94 : decode cX0_comesBeforeByLight 94 = .ok (.if_icmp .eq 26, 3) := by decide +kernel
theorem dX0_comesBeforeByLight_97 : decode cX0_comesBeforeByLight 97 = .ok (.aload_n 0, 1) := by decide +kernel
theorem dX0_comesBeforeByLight_98 : decode cX0_comesBeforeByLight 98 = .ok (.getfield 27, 3) := by decide +kernel
theorem dX0_comesBeforeByLight_101 : decode cX0_comesBeforeByLight 101 = .ok (.getfield 58, 3) := by decide +kernel
theorem dX0_comesBeforeByLight_104 : decode cX0_comesBeforeByLight 104 = .ok (.aload_n 1, 1) := by decide +kernel
theorem dX0_comesBeforeByLight_105 : decode cX0_comesBeforeByLight 105 = .ok (.getfield 27, 3) := by decide +kernel
theorem dX0_comesBeforeByLight_108 : decode cX0_comesBeforeByLight 108 = .ok (.getfield 58, 3) := by decide +kernel
theorem dX0_comesBeforeByLight_111 : decode cX0_comesBeforeByLight 111 = .ok (.if_icmp .ge 7, 3) := by decide +kernel
theorem dX0_comesBeforeByLight_114 : decode cX0_comesBeforeByLight 114 = .ok (.iconst 1, 1) := by decide +kernel
theorem dX0_comesBeforeByLight_115 : decode cX0_comesBeforeByLight 115 = .ok (.goto 4, 3) := by decide +kernel
theorem dX0_comesBeforeByLight_118 : decode cX0_comesBeforeByLight 118 = .ok (.iconst 0, 1) := by decide +kernel
theorem dX0_comesBeforeByLight_119 : decode cX0_comesBeforeByLight 119 = .ok (.ireturn, 1) := by decide +kernel
theorem dX0_comesBeforeByLight_120 : decode cX0_comesBeforeByLight 120 = .ok (.aload_n 0, 1) := by decide +kernel
theorem dX0_comesBeforeByLight_121 : decode cX0_comesBeforeByLight 121 = .ok (.getfield 9, 3) := by decide +kernel
theorem dX0_comesBeforeByLight_124 : decode cX0_comesBeforeByLight 124 = .ok (.aload_n 1, 1) := by decide +kernel
theorem dX0_comesBeforeByLight_125 : decode cX0_comesBeforeByLight 125 = .ok (.getfield 9, 3) := by decide +kernel
theorem dX0_comesBeforeByLight_128 : decode cX0_comesBeforeByLight 128 = .ok (.if_icmp .ge 7, 3) := by decide +kernel
theorem dX0_comesBeforeByLight_131 : decode cX0_comesBeforeByLight 131 = .ok (.iconst 1, 1) := by decide +kernel
theorem dX0_comesBeforeByLight_132 : decode cX0_comesBeforeByLight 132 = .ok (.goto 4, 3) := by decide +kernel
theorem dX0_comesBeforeByLight_135 : decode cX0_comesBeforeByLight 135 = .ok (.iconst 0, 1) := by decide +kernel
theorem dX0_comesBeforeByLight_136 : decode cX0_comesBeforeByLight 136 = .ok (.ireturn, 1) := by decide +kernel
theorem dX1_init_0 : decode cX1_init 0 = .ok (.aload_n 0, 1) := by decide +kernel
theorem dX1_init_1 : decode cX1_init 1 = .ok (.invokespecial 1, 3) := by decide +kernel
theorem dX1_init_4 : decode cX1_init 4 = .ok (.aload_n 0, 1) := by decide +kernel
theorem dX1_init_5 : decode cX1_init 5 = .ok (.iload_n 1, 1) := by decide +kernel
theorem dX1_init_6 : decode cX1_init 6 = .ok (.putfield 7, 3) := by decide +kernel
theorem dX1_init_9 : decode cX1_init 9 = .ok (.aload_n 0, 1) := by decide +kernel
theorem dX1_init_10 : decode cX1_init 10 = .ok (.aload_n 2, 1) := by decide +kernel
theorem dX1_init_11 : decode cX1_init 11 = .ok (.putfield 13, 3) := by decide +kernel
theorem dX1_init_14 : decode cX1_init 14 = .ok (.aload_n 0, 1) := by decide +kernel
theorem dX1_init_15 : decode cX1_init 15 = .ok (.iload_n 3, 1) := by decide +kernel
theorem dX1_init_16 : decode cX1_init 16 = .ok (.putfield 17, 3) := by decide +kernel
theorem dX1_init_19 : decode cX1_init 19 = .ok (.aload_n 0, 1) := by decide +kernel
theorem dX1_init_20 : decode cX1_init 20 = .ok (.iload 4, 2) := by decide +kernel
theorem dX1_init_22 : decode cX1_init 22 = .ok (.putfield 20, 3) := by decide +kernel
theorem dX1_init_25 : decode cX1_init 25 = .ok (.aload_n 0, 1) := by decide +kernel
theorem dX1_init_26 : decode cX1_init 26 = .ok (.iload 5, 2) := by decide +kernel
theorem dX1_init_28 : decode cX1_init 28 = .ok (.putfield 23, 3) := by decide +kernel
theorem dX1_init_31 : decode cX1_init 31 = .ok (.return_, 1) := by decide +kernel
theorem dX2_init_0 : decode cX2_init 0 = .ok (.aload_n 0, 1) := by decide +kernel
theorem dX2_init_1 : decode cX2_init 1 = .ok (.invokespecial 3, 3) := by decide +kernel
theorem dX2_init_4 : decode cX2_init 4 = .ok (.aload_n 0, 1) := by decide +kernel
theorem dX2_init_5 : decode cX2_init 5 = .ok (.bipush 6, 2) := by decide +kernel
theorem dX2_init_7 : decode cX2_init 7 = .ok (.newarray .int, 2) := by decide +kernel
theorem dX2_init_9 : decode cX2_init 9 = .ok (.putfield 9, 3) := by decide +kernel
theorem dX2_init_12 : decode cX2_init 12 = .ok (.aload_n 0, 1) := by decide +kernel
theorem dX2_init_13 : decode cX2_init 13 = .ok (.bipush 6, 2) := by decide +kernel
theorem dX2_init_15 : decode cX2_init 15 = .ok (.newarray .int, 2) := by decide +kernel
theorem dX2_init_17 : decode cX2_init 17 = .ok (.putfield 15, 3) := by decide +kernel
theorem dX2_init_20 : decode cX2_init 20 = .ok (.aload_n 0, 1) := by decide +kernel
theorem dX2_init_21 : decode cX2_init 21 = .ok (.bipush 6, 2) := by decide +kernel
theorem dX2_init_23 : decode cX2_init 23 = .ok (.newarray .int, 2) := by decide +kernel
theorem dX2_init_25 : decode cX2_init 25 = .ok (.putfield 18, 3) := by decide +kernel
theorem dX2_init_28 : decode cX2_init 28 = .ok (.aload_n 0, 1) := by decide +kernel
theorem dX2_init_29 : decode cX2_init 29 = .ok (.bipush 6, 2) := by decide +kernel
theorem dX2_init_31 : decode cX2_init 31 = .ok (.newarray .int, 2) := by decide +kernel
theorem dX2_init_33 : decode cX2_init 33 = .ok (.putfield 21, 3) := by decide +kernel
theorem dX2_init_36 : decode cX2_init 36 = .ok (.return_, 1) := by decide +kernel
theorem dX2_begin_0 : decode cX2_begin 0 = .ok (.aload_n 0, 1) := by decide +kernel
theorem dX2_begin_1 : decode cX2_begin 1 = .ok (.iconst 0, 1) := by decide +kernel
theorem dX2_begin_2 : decode cX2_begin 2 = .ok (.putfield 24, 3) := by decide +kernel
theorem dX2_begin_5 : decode cX2_begin 5 = .ok (.aload_n 0, 1) := by decide +kernel
theorem dX2_begin_6 : decode cX2_begin 6 = .ok (.aload_n 1, 1) := by decide +kernel
theorem dX2_begin_7 : decode cX2_begin 7 = .ok (.getfield 28, 3) := by decide +kernel
theorem dX2_begin_10 : decode cX2_begin 10 = .ok (.putfield 33, 3) := by decide +kernel
theorem dX2_begin_13 : decode cX2_begin 13 = .ok (.aload_n 0, 1) := by decide +kernel
theorem dX2_begin_14 : decode cX2_begin 14 = .ok (.aload_n 1, 1) := by decide +kernel
theorem dX2_begin_15 : decode cX2_begin 15 = .ok (.getfield 36, 3) := by decide +kernel
theorem dX2_begin_18 : decode cX2_begin 18 = .ok (.putfield 39, 3) := by decide +kernel
theorem dX2_begin_21 : decode cX2_begin 21 = .ok (.return_, 1) := by decide +kernel
set_option maxRecDepth 20000 in
theorem ggX2_add_X0_dyeingHours : GoodIn wsX2_add wsX0_dyeingHours := goodIn_r _ [16, 17, 25, 26, 27, 28, 29, 30, 31, 32, 33] (by decide +kernel) (by decide +kernel)
set_option maxRecDepth 20000 in
theorem gX2_add_X0_dyeingHours : GoodIn wsX2_add (wsV RX2 69 RX0 yX0_dyeingHours wsX0_dyeingHours) := goodIn_app (goodIn_of _ (by decide +kernel)) ggX2_add_X0_dyeingHours
theorem dX2_add_0 : decode cX2_add 0 = .ok (.aload_n 0, 1) := by decide +kernel
theorem dX2_add_1 : decode cX2_add 1 = .ok (.getfield 24, 3) := by decide +kernel
theorem dX2_add_4 : decode cX2_add 4 = .ok (.ifCond .lt 86, 3) := by decide +kernel
theorem dX2_add_7 : decode cX2_add 7 = .ok (.aload_n 0, 1) := by decide +kernel
theorem dX2_add_8 : decode cX2_add 8 = .ok (.getfield 24, 3) := by decide +kernel
theorem dX2_add_11 : decode cX2_add 11 = .ok (.bipush 6, 2) := by decide +kernel
theorem dX2_add_13 : decode cX2_add 13 = .ok (.if_icmp .ge 77, 3) := by decide +kernel
theorem dX2_add_16 : decode cX2_add 16 = .ok (.aload_n 0, 1) := by decide +kernel
theorem dX2_add_17 : decode cX2_add 17 = .ok (.getfield 9, 3) := by decide +kernel
theorem dX2_add_20 : decode cX2_add 20 = .ok (.aload_n 0, 1) := by decide +kernel
theorem dX2_add_21 : decode cX2_add 21 = .ok (.getfield 24, 3) := by decide +kernel
theorem dX2_add_24 : decode cX2_add 24 = .ok (.aload_n 1, 1) := by decide +kernel
theorem dX2_add_25 : decode cX2_add 25 = .ok (.getfield 42, 3) := by decide +kernel
theorem dX2_add_28 : decode cX2_add 28 = .ok (.iastore, 1) := by decide +kernel
theorem dX2_add_29 : decode cX2_add 29 = .ok (.aload_n 0, 1) := by decide +kernel
theorem dX2_add_30 : decode cX2_add 30 = .ok (.getfield 15, 3) := by decide +kernel
theorem dX2_add_33 : decode cX2_add 33 = .ok (.aload_n 0, 1) := by decide +kernel
theorem dX2_add_34 : decode cX2_add 34 = .ok (.getfield 24, 3) := by decide +kernel
theorem dX2_add_37 : decode cX2_add 37 = .ok (.aload_n 1, 1) := by decide +kernel
theorem dX2_add_38 : decode cX2_add 38 = .ok (.getfield 47, 3) := by decide +kernel
theorem dX2_add_41 : decode cX2_add 41 = .ok (.getfield 51, 3) := by decide +kernel
theorem dX2_add_44 : decode cX2_add 44 = .ok (.getfield 57, 3) := by decide +kernel
theorem dX2_add_47 : decode cX2_add 47 = .ok (.getfield 63, 3) := by decide +kernel
theorem dX2_add_50 : decode cX2_add 50 = .ok (.iastore, 1) := by decide +kernel
theorem dX2_add_51 : decode cX2_add 51 = .ok (.aload_n 0, 1) := by decide +kernel
theorem dX2_add_52 : decode cX2_add 52 = .ok (.getfield 18, 3) := by decide +kernel
theorem dX2_add_55 : decode cX2_add 55 = .ok (.aload_n 0, 1) := by decide +kernel
theorem dX2_add_56 : decode cX2_add 56 = .ok (.getfield 24, 3) := by decide +kernel
theorem dX2_add_59 : decode cX2_add 59 = .ok (.aload_n 1, 1) := by decide +kernel
theorem dX2_add_60 : decode cX2_add 60 = .ok (.getfield 47, 3) := by decide +kernel
theorem dX2_add_63 : decode cX2_add 63 = .ok (.getfield 66, 3) := by decide +kernel
theorem dX2_add_66 : decode cX2_add 66 = .ok (.iastore, 1) := by decide +kernel
theorem dX2_add_67 : decode cX2_add 67 = .ok (.aload_n 0, 1) := by decide +kernel
theorem dX2_add_68 : decode cX2_add 68 = .ok (.getfield 21, 3) := by decide +kernel
theorem dX2_add_71 : decode cX2_add 71 = .ok (.aload_n 0, 1) := by decide +kernel
theorem dX2_add_72 : decode cX2_add 72 = .ok (.getfield 24, 3) := by decide +kernel
theorem dX2_add_75 : decode cX2_add 75 = .ok (.aload_n 1, 1) := by decide +kernel
theorem dX2_add_76 : decode cX2_add 76 = .ok (.invokevirtual 69, 3) := by decide +kernel
theorem dX2_add_79 : decode cX2_add 79 = .ok (.iastore, 1) := by decide +kernel
theorem dX2_add_80 : decode cX2_add 80 = .ok (.aload_n 0, 1) := by decide +kernel
theorem dX2_add_81 : decode cX2_add 81 = .ok (.dup, 1) := by decide +kernel
theorem dX2_add_82 : decode cX2_add 82 = .ok (.getfield 24, 3) := by decide +kernel
theorem dX2_add_85 : decode cX2_add 85 = .ok (.iconst 1, 1) := by decide +kernel
theorem dX2_add_86 : decode cX2_add 86 = .ok (.iadd, 1) := by decide +kernel
theorem dX2_add_87 : decode cX2_add 87 = .ok (.putfield 24, 3) := by decide +kernel
theorem dX2_add_90 : decode cX2_add 90 = .ok (.return_, 1) := by decide +kernel
theorem dX2_dyeingHours_0 : decode cX2_dyeingHours 0 = .ok (.iconst 0, 1) := by decide +kernel
theorem dX2_dyeingHours_1 : decode cX2_dyeingHours 1 = .ok (.istore_n 1, 1) := by decide +kernel
theorem dX2_dyeingHours_2 : decode cX2_dyeingHours 2 = .ok (.iconst 0, 1) := by decide +kernel
theorem dX2_dyeingHours_3 : decode cX2_dyeingHours 3 = .ok (.istore_n 2, 1) := by decide +kernel
theorem dX2_dyeingHours_4 : decode cX2_dyeingHours 4 = .ok (.iload_n 2, 1) := by decide +kernel
theorem dX2_dyeingHours_5 : decode cX2_dyeingHours 5 = .ok (.aload_n 0, 1) := by decide +kernel
theorem dX2_dyeingHours_6 : decode cX2_dyeingHours 6 = .ok (.getfield 24, 3) := by decide +kernel
theorem dX2_dyeingHours_9 : decode cX2_dyeingHours 9 = .ok (.if_icmp .ge 24, 3) := by decide +kernel
theorem dX2_dyeingHours_12 : decode cX2_dyeingHours 12 = .ok (.iload_n 2, 1) := by decide +kernel
theorem dX2_dyeingHours_13 : decode cX2_dyeingHours 13 = .ok (.bipush 6, 2) := by decide +kernel
theorem dX2_dyeingHours_15 : decode cX2_dyeingHours 15 = .ok (.if_icmp .ge 18, 3) := by decide +kernel
theorem dX2_dyeingHours_18 : decode cX2_dyeingHours 18 = .ok (.iload_n 1, 1) := by decide +kernel
theorem dX2_dyeingHours_19 : decode cX2_dyeingHours 19 = .ok (.aload_n 0, 1) := by decide +kernel
theorem dX2_dyeingHours_20 : decode cX2_dyeingHours 20 = .ok (.getfield 21, 3) := by decide +kernel
theorem dX2_dyeingHours_23 : decode cX2_dyeingHours 23 = .ok (.iload_n 2, 1) := by decide +kernel
theorem dX2_dyeingHours_24 : decode cX2_dyeingHours 24 = .ok (.iaload, 1) := by decide +kernel
theorem dX2_dyeingHours_25 : decode cX2_dyeingHours 25 = .ok (.iadd, 1) := by decide +kernel
theorem dX2_dyeingHours_26 : decode cX2_dyeingHours 26 = .ok (.istore_n 1, 1) := by decide +kernel
theorem dX2_dyeingHours_27 : decode cX2_dyeingHours 27 = .ok (.iinc 2 1, 3) := by decide +kernel
theorem dX2_dyeingHours_30 : decode cX2_dyeingHours 30 = .ok (.goto (-26), 3) := by decide +kernel
theorem dX2_dyeingHours_33 : decode cX2_dyeingHours 33 = .ok (.iload_n 1, 1) := by decide +kernel
theorem dX2_dyeingHours_34 : decode cX2_dyeingHours 34 = .ok (.ireturn, 1) := by decide +kernel
set_option maxRecDepth 20000 in
theorem ggX2_fewestCleanings_X2_fewestFrom : GoodIn wsX2_fewestCleanings wsX2_fewestFrom := goodIn_ca (goodIn_r _ [7, 3, 8, 9, 10, 11, 6, 12, 13, 14, 15, 16, 17, 18, 4, 5, 19, 20, 21, 22, 23, 24, 25] (by decide +kernel) (by decide +kernel)) (goodIn_sub (fun _ h => List.mem_cons_of_mem _ (List.mem_append_right _ h)) (by decide +kernel))
set_option maxRecDepth 20000 in
theorem gX2_fewestCleanings_X2_fewestFrom : GoodIn wsX2_fewestCleanings (va_wsS RX2 73 yX2_fewestFrom wsX2_fewestFrom) := goodIn_app (goodIn_of _ (by decide +kernel)) ggX2_fewestCleanings_X2_fewestFrom
theorem dX2_fewestCleanings_0 : decode cX2_fewestCleanings 0 = .ok (.aload_n 0, 1) := by decide +kernel
theorem dX2_fewestCleanings_1 : decode cX2_fewestCleanings 1 = .ok (.iconst 0, 1) := by decide +kernel
theorem dX2_fewestCleanings_2 : decode cX2_fewestCleanings 2 = .ok (.iconst 0, 1) := by decide +kernel
theorem dX2_fewestCleanings_3 : decode cX2_fewestCleanings 3 = .ok (.aload_n 0, 1) := by decide +kernel
theorem dX2_fewestCleanings_4 : decode cX2_fewestCleanings 4 = .ok (.getfield 33, 3) := by decide +kernel
theorem dX2_fewestCleanings_7 : decode cX2_fewestCleanings 7 = .ok (.aload_n 0, 1) := by decide +kernel
theorem dX2_fewestCleanings_8 : decode cX2_fewestCleanings 8 = .ok (.getfield 39, 3) := by decide +kernel
theorem dX2_fewestCleanings_11 : decode cX2_fewestCleanings 11 = .ok (.iconst 0, 1) := by decide +kernel
theorem dX2_fewestCleanings_12 : decode cX2_fewestCleanings 12 = .ok (.aload_n 0, 1) := by decide +kernel
theorem dX2_fewestCleanings_13 : decode cX2_fewestCleanings 13 = .ok (.getfield 24, 3) := by decide +kernel
theorem dX2_fewestCleanings_16 : decode cX2_fewestCleanings 16 = .ok (.iconst 1, 1) := by decide +kernel
theorem dX2_fewestCleanings_17 : decode cX2_fewestCleanings 17 = .ok (.iadd, 1) := by decide +kernel
theorem dX2_fewestCleanings_18 : decode cX2_fewestCleanings 18 = .ok (.invokestatic 73, 3) := by decide +kernel
theorem dX2_fewestCleanings_21 : decode cX2_fewestCleanings 21 = .ok (.ireturn, 1) := by decide +kernel
set_option maxRecDepth 20000 in
theorem ggX2_firstOfBestOrder_X2_fewestCleanings : GoodIn wsX2_firstOfBestOrder wsX2_fewestCleanings := goodIn_ca (goodIn_r _ [7, 8, 9, 1, 10, 11, 6, 12, 13, 14, 15, 16, 17, 18, 19, 20, 21, 22, 23, 28, 29, 30, 31, 32, 33, 34] (by decide +kernel) (by decide +kernel)) (goodIn_sub (fun _ h => List.mem_cons_of_mem _ (List.mem_append_right _ h)) (by decide +kernel))
set_option maxRecDepth 20000 in
theorem gX2_firstOfBestOrder_X2_fewestCleanings : GoodIn wsX2_firstOfBestOrder (wsV RX2 77 RX2 yX2_fewestCleanings wsX2_fewestCleanings) := goodIn_app (goodIn_of _ (by decide +kernel)) ggX2_firstOfBestOrder_X2_fewestCleanings
set_option maxRecDepth 20000 in
theorem ggX2_firstOfBestOrder_X2_fewestBeginningWith : GoodIn wsX2_firstOfBestOrder wsX2_fewestBeginningWith := goodIn_ca (goodIn_r _ [27, 8, 9, 13, 14, 15, 16, 6, 17, 18, 19, 20, 21, 22, 23, 10, 11, 12, 1, 28, 29, 30, 31, 32, 33, 34] (by decide +kernel) (by decide +kernel)) (goodIn_sub (fun _ h => List.mem_cons_of_mem _ (List.mem_append_right _ h)) (by decide +kernel))
set_option maxRecDepth 20000 in
theorem gX2_firstOfBestOrder_X2_fewestBeginningWith : GoodIn wsX2_firstOfBestOrder (wsV RX2 80 RX2 yX2_fewestBeginningWith wsX2_fewestBeginningWith) := goodIn_app (goodIn_of _ (by decide +kernel)) ggX2_firstOfBestOrder_X2_fewestBeginningWith
theorem dX2_firstOfBestOrder_0 : decode cX2_firstOfBestOrder 0 = .ok (.aload_n 0, 1) := by decide +kernel
theorem dX2_firstOfBestOrder_1 : decode cX2_firstOfBestOrder 1 = .ok (.invokevirtual 77, 3) := by decide +kernel
theorem dX2_firstOfBestOrder_4 : decode cX2_firstOfBestOrder 4 = .ok (.istore_n 1, 1) := by decide +kernel
theorem dX2_firstOfBestOrder_5 : decode cX2_firstOfBestOrder 5 = .ok (.iconst 0, 1) := by decide +kernel
theorem dX2_firstOfBestOrder_6 : decode cX2_firstOfBestOrder 6 = .ok (.istore_n 2, 1) := by decide +kernel
theorem dX2_firstOfBestOrder_7 : decode cX2_firstOfBestOrder 7 = .ok (.iload_n 2, 1) := by decide +kernel
theorem dX2_firstOfBestOrder_8 : decode cX2_firstOfBestOrder 8 = .ok (.aload_n 0, 1) := by decide +kernel
theorem dX2_firstOfBestOrder_9 : decode cX2_firstOfBestOrder 9 = .ok (.getfield 24, 3) := by decide +kernel
theorem dX2_firstOfBestOrder_12 : decode cX2_firstOfBestOrder 12 = .ok (.iconst 1, 1) := by decide +kernel
theorem dX2_firstOfBestOrder_13 : decode cX2_firstOfBestOrder 13 = .ok (.isub, 1) := by decide +kernel
theorem dX2_firstOfBestOrder_14 : decode cX2_firstOfBestOrder 14 = .ok (.if_icmp .ge 26, 3) := by decide +kernel
theorem dX2_firstOfBestOrder_17 : decode cX2_firstOfBestOrder 17 = .ok (.iload_n 2, 1) := by decide +kernel
theorem dX2_firstOfBestOrder_18 : decode cX2_firstOfBestOrder 18 = .ok (.iconst 5, 1) := by decide +kernel
theorem dX2_firstOfBestOrder_19 : decode cX2_firstOfBestOrder 19 = .ok (.if_icmp .ge 21, 3) := by decide +kernel
theorem dX2_firstOfBestOrder_22 : decode cX2_firstOfBestOrder 22 = .ok (.aload_n 0, 1) := by decide +kernel
theorem dX2_firstOfBestOrder_23 : decode cX2_firstOfBestOrder 23 = .ok (.iload_n 2, 1) := by decide +kernel
theorem dX2_firstOfBestOrder_24 : decode cX2_firstOfBestOrder 24 = .ok (.iload_n 1, 1) := by decide +kernel
theorem dX2_firstOfBestOrder_25 : decode cX2_firstOfBestOrder 25 = .ok (.iconst 1, 1) := by decide +kernel
theorem dX2_firstOfBestOrder_26 : decode cX2_firstOfBestOrder 26 = .ok (.iadd, 1) := by decide +kernel
theorem dX2_firstOfBestOrder_27 : decode cX2_firstOfBestOrder 27 = .ok (.invokevirtual 80, 3) := by decide +kernel
theorem dX2_firstOfBestOrder_30 : decode cX2_firstOfBestOrder 30 = .ok (.iload_n 1, 1) := by decide +kernel
theorem dX2_firstOfBestOrder_31 : decode cX2_firstOfBestOrder 31 = .ok (.if_icmp .le 9, 3) := by decide +kernel
theorem dX2_firstOfBestOrder_34 : decode cX2_firstOfBestOrder 34 = .ok (.iinc 2 1, 3) := by decide +kernel
theorem dX2_firstOfBestOrder_37 : decode cX2_firstOfBestOrder 37 = .ok (.goto (-30), 3) := by decide +kernel
theorem dX2_firstOfBestOrder_40 : decode cX2_firstOfBestOrder 40 = .ok (.aload_n 0, 1) := by decide +kernel
theorem dX2_firstOfBestOrder_41 : decode cX2_firstOfBestOrder 41 = .ok (.getfield 9, 3) := by decide +kernel
theorem dX2_firstOfBestOrder_44 : decode cX2_firstOfBestOrder 44 = .ok (.iload_n 2, 1) := by decide +kernel
theorem dX2_firstOfBestOrder_45 : decode cX2_firstOfBestOrder 45 = .ok (.iaload, 1) := by decide +kernel
theorem dX2_firstOfBestOrder_46 : decode cX2_firstOfBestOrder 46 = .ok (.ireturn, 1) := by decide +kernel
set_option maxRecDepth 20000 in
theorem ggX2_fewestBeginningWith_X2_mustBeCleaned : GoodIn wsX2_fewestBeginningWith wsX2_mustBeCleaned := goodIn_ca (goodIn_r _ [8, 3, 9, 10, 11, 12, 13, 14, 19, 20, 21, 22, 23, 24, 25] (by decide +kernel) (by decide +kernel)) (goodIn_sub (fun _ h => List.mem_cons_of_mem _ (List.mem_append_right _ h)) (by decide +kernel))
set_option maxRecDepth 20000 in
theorem gX2_fewestBeginningWith_X2_mustBeCleaned : GoodIn wsX2_fewestBeginningWith (wsV RX2 84 RX2 yX2_mustBeCleaned wsX2_mustBeCleaned) := goodIn_app (goodIn_of _ (by decide +kernel)) ggX2_fewestBeginningWith_X2_mustBeCleaned
set_option maxRecDepth 20000 in
theorem ggX2_fewestBeginningWith_X2_fewestFrom : GoodIn wsX2_fewestBeginningWith wsX2_fewestFrom := goodIn_ca (goodIn_r _ [17, 18, 3, 4, 5, 6, 7, 8, 9, 10, 11, 12, 13, 14, 15, 16, 19, 20, 21, 22, 23, 24, 25] (by decide +kernel) (by decide +kernel)) (goodIn_sub (fun _ h => List.mem_cons_of_mem _ (List.mem_append_right _ h)) (by decide +kernel))
set_option maxRecDepth 20000 in
theorem gX2_fewestBeginningWith_X2_fewestFrom : GoodIn wsX2_fewestBeginningWith (va_wsS RX2 73 yX2_fewestFrom wsX2_fewestFrom) := goodIn_app (goodIn_of _ (by decide +kernel)) ggX2_fewestBeginningWith_X2_fewestFrom
theorem dX2_fewestBeginningWith_0 : decode cX2_fewestBeginningWith 0 = .ok (.aload_n 0, 1) := by decide +kernel
theorem dX2_fewestBeginningWith_1 : decode cX2_fewestBeginningWith 1 = .ok (.iload_n 1, 1) := by decide +kernel
theorem dX2_fewestBeginningWith_2 : decode cX2_fewestBeginningWith 2 = .ok (.aload_n 0, 1) := by decide +kernel
theorem dX2_fewestBeginningWith_3 : decode cX2_fewestBeginningWith 3 = .ok (.getfield 33, 3) := by decide +kernel
theorem dX2_fewestBeginningWith_6 : decode cX2_fewestBeginningWith 6 = .ok (.aload_n 0, 1) := by decide +kernel
theorem dX2_fewestBeginningWith_7 : decode cX2_fewestBeginningWith 7 = .ok (.getfield 39, 3) := by decide +kernel
theorem dX2_fewestBeginningWith_10 : decode cX2_fewestBeginningWith 10 = .ok (.invokevirtual 84, 3) := by decide +kernel
theorem dX2_fewestBeginningWith_13 : decode cX2_fewestBeginningWith 13 = .ok (.istore_n 3, 1) := by decide +kernel
theorem dX2_fewestBeginningWith_14 : decode cX2_fewestBeginningWith 14 = .ok (.iload_n 3, 1) := by decide +kernel
theorem dX2_fewestBeginningWith_15 : decode cX2_fewestBeginningWith 15 = .ok (.ifCond .eq 7, 3) := by decide +kernel
theorem dX2_fewestBeginningWith_18 : decode cX2_fewestBeginningWith 18 = .ok (.iconst (-1), 1) := by decide +kernel
theorem dX2_fewestBeginningWith_19 : decode cX2_fewestBeginningWith 19 = .ok (.goto 7, 3) := by decide +kernel
theorem dX2_fewestBeginningWith_22 : decode cX2_fewestBeginningWith 22 = .ok (.aload_n 0, 1) := by decide +kernel
theorem dX2_fewestBeginningWith_23 : decode cX2_fewestBeginningWith 23 = .ok (.getfield 39, 3) := by decide +kernel
theorem dX2_fewestBeginningWith_26 : decode cX2_fewestBeginningWith 26 = .ok (.istore 4, 2) := by decide +kernel
theorem dX2_fewestBeginningWith_28 : decode cX2_fewestBeginningWith 28 = .ok (.aload_n 0, 1) := by decide +kernel
theorem dX2_fewestBeginningWith_29 : decode cX2_fewestBeginningWith 29 = .ok (.iconst 1, 1) := by decide +kernel
theorem dX2_fewestBeginningWith_30 : decode cX2_fewestBeginningWith 30 = .ok (.iconst 1, 1) := by decide +kernel
theorem dX2_fewestBeginningWith_31 : decode cX2_fewestBeginningWith 31 = .ok (.iload_n 1, 1) := by decide +kernel
theorem dX2_fewestBeginningWith_32 : decode cX2_fewestBeginningWith 32 = .ok (.ishl, 1) := by decide +kernel
theorem dX2_fewestBeginningWith_33 : decode cX2_fewestBeginningWith 33 = .ok (.aload_n 0, 1) := by decide +kernel
theorem dX2_fewestBeginningWith_34 : decode cX2_fewestBeginningWith 34 = .ok (.getfield 15, 3) := by decide +kernel
theorem dX2_fewestBeginningWith_37 : decode cX2_fewestBeginningWith 37 = .ok (.iload_n 1, 1) := by decide +kernel
theorem dX2_fewestBeginningWith_38 : decode cX2_fewestBeginningWith 38 = .ok (.iaload, 1) := by decide +kernel
theorem dX2_fewestBeginningWith_39 : decode cX2_fewestBeginningWith 39 = .ok (.iload 4, 2) := by decide +kernel
theorem dX2_fewestBeginningWith_41 : decode cX2_fewestBeginningWith 41 = .ok (.iload_n 3, 1) := by decide +kernel
theorem dX2_fewestBeginningWith_42 : decode cX2_fewestBeginningWith 42 = .ok (.ifCond .eq 7, 3) := by decide +kernel
theorem dX2_fewestBeginningWith_45 : decode cX2_fewestBeginningWith 45 = .ok (.iconst 1, 1) := by decide +kernel
theorem dX2_fewestBeginningWith_46 : decode cX2_fewestBeginningWith 46 = .ok (.goto 4, 3) := by decide +kernel
theorem dX2_fewestBeginningWith_49 : decode cX2_fewestBeginningWith 49 = .ok (.iconst 0, 1) := by decide +kernel
theorem dX2_fewestBeginningWith_50 : decode cX2_fewestBeginningWith 50 = .ok (.iload_n 2, 1) := by decide +kernel
theorem dX2_fewestBeginningWith_51 : decode cX2_fewestBeginningWith 51 = .ok (.invokestatic 73, 3) := by decide +kernel
theorem dX2_fewestBeginningWith_54 : decode cX2_fewestBeginningWith 54 = .ok (.ireturn, 1) := by decide +kernel
set_option maxRecDepth 20000 in
theorem ggX2_leastOfAllOrders_X2_leastFrom : GoodIn wsX2_leastOfAllOrders wsX2_leastFrom := goodIn_ca (goodIn_r _ [6, 7, 8, 9, 10, 11, 12, 13, 14, 15, 16, 17, 5, 18, 19, 20, 21, 22, 23, 24, 3, 4, 25, 26, 27, 28, 29, 30, 31] (by decide +kernel) (by decide +kernel)) (goodIn_sub (fun _ h => List.mem_cons_of_mem _ (List.mem_append_right _ h)) (by decide +kernel))
set_option maxRecDepth 20000 in
theorem gX2_leastOfAllOrders_X2_leastFrom : GoodIn wsX2_leastOfAllOrders (va_wsS RX2 88 yX2_leastFrom wsX2_leastFrom) := goodIn_app (goodIn_of _ (by decide +kernel)) ggX2_leastOfAllOrders_X2_leastFrom
theorem dX2_leastOfAllOrders_0 : decode cX2_leastOfAllOrders 0 = .ok (.aload_n 0, 1) := by decide +kernel
theorem dX2_leastOfAllOrders_1 : decode cX2_leastOfAllOrders 1 = .ok (.iconst 0, 1) := by decide +kernel
theorem dX2_leastOfAllOrders_2 : decode cX2_leastOfAllOrders 2 = .ok (.iconst 0, 1) := by decide +kernel
theorem dX2_leastOfAllOrders_3 : decode cX2_leastOfAllOrders 3 = .ok (.aload_n 0, 1) := by decide +kernel
theorem dX2_leastOfAllOrders_4 : decode cX2_leastOfAllOrders 4 = .ok (.getfield 33, 3) := by decide +kernel
theorem dX2_leastOfAllOrders_7 : decode cX2_leastOfAllOrders 7 = .ok (.aload_n 0, 1) := by decide +kernel
theorem dX2_leastOfAllOrders_8 : decode cX2_leastOfAllOrders 8 = .ok (.getfield 39, 3) := by decide +kernel
theorem dX2_leastOfAllOrders_11 : decode cX2_leastOfAllOrders 11 = .ok (.iconst 0, 1) := by decide +kernel
theorem dX2_leastOfAllOrders_12 : decode cX2_leastOfAllOrders 12 = .ok (.invokestatic 88, 3) := by decide +kernel
theorem dX2_leastOfAllOrders_15 : decode cX2_leastOfAllOrders 15 = .ok (.ireturn, 1) := by decide +kernel
set_option maxRecDepth 20000 in
theorem ggX2_mustBeCleaned_X6_isTooDark : GoodIn wsX2_mustBeCleaned wsX6_isTooDark := goodIn_r _ [5] (by decide +kernel) (by decide +kernel)
set_option maxRecDepth 20000 in
theorem gX2_mustBeCleaned_X6_isTooDark_n92 : GoodIn wsX2_mustBeCleaned (wsX6_isTooDark) := ggX2_mustBeCleaned_X6_isTooDark
set_option maxRecDepth 20000 in
theorem ggX2_mustBeCleaned_X6_isBarred : GoodIn wsX2_mustBeCleaned wsX6_isBarred := goodIn_r _ [7] (by decide +kernel) (by decide +kernel)
set_option maxRecDepth 20000 in
theorem gX2_mustBeCleaned_X6_isBarred_n96 : GoodIn wsX2_mustBeCleaned (wsX6_isBarred) := ggX2_mustBeCleaned_X6_isBarred
theorem dX2_mustBeCleaned_0 : decode cX2_mustBeCleaned 0 = .ok (.iload_n 2, 1) := by decide +kernel
theorem dX2_mustBeCleaned_1 : decode cX2_mustBeCleaned 1 = .ok (.aload_n 0, 1) := by decide +kernel
theorem dX2_mustBeCleaned_2 : decode cX2_mustBeCleaned 2 = .ok (.getfield 15, 3) := by decide +kernel
theorem dX2_mustBeCleaned_5 : decode cX2_mustBeCleaned 5 = .ok (.iload_n 1, 1) := by decide +kernel
theorem dX2_mustBeCleaned_6 : decode cX2_mustBeCleaned 6 = .ok (.iaload, 1) := by decide +kernel
theorem dX2_mustBeCleaned_7 : decode cX2_mustBeCleaned 7 = .ok (.invokestatic 92, 3) := by decide +kernel
theorem dX2_mustBeCleaned_10 : decode cX2_mustBeCleaned 10 = .ok (.ifCond .ne 16, 3) := by decide +kernel
theorem dX2_mustBeCleaned_13 : decode cX2_mustBeCleaned 13 = .ok (.iload_n 3, 1) := by decide +kernel
theorem dX2_mustBeCleaned_14 : decode cX2_mustBeCleaned 14 = .ok (.aload_n 0, 1) := by decide +kernel
theorem dX2_mustBeCleaned_15 : decode cX2_mustBeCleaned 15 = .ok (.getfield 18, 3) := by decide +kernel
theorem dX2_mustBeCleaned_18 : decode cX2_mustBeCleaned 18 = .ok (.iload_n 1, 1) := by decide +kernel
theorem dX2_mustBeCleaned_19 : decode cX2_mustBeCleaned 19 = .ok (.iaload, 1) := by decide +kernel
theorem dX2_mustBeCleaned_20 : decode cX2_mustBeCleaned 20 = .ok (.invokestatic 96, 3) := by decide +kernel
theorem dX2_mustBeCleaned_23 : decode cX2_mustBeCleaned 23 = .ok (.ifCond .eq 7, 3) := by decide +kernel
theorem dX2_mustBeCleaned_26 : decode cX2_mustBeCleaned 26 = .ok (.iconst 1, 1) := by decide +kernel
theorem dX2_mustBeCleaned_27 : decode cX2_mustBeCleaned 27 = .ok (.goto 4, 3) := by decide +kernel
theorem dX2_mustBeCleaned_30 : decode cX2_mustBeCleaned 30 = .ok (.iconst 0, 1) := by decide +kernel
theorem dX2_mustBeCleaned_31 : decode cX2_mustBeCleaned 31 = .ok (.ireturn, 1) := by decide +kernel
set_option maxRecDepth 20000 in
theorem ggX2_fewestFrom_X2_mustBeCleaned : GoodIn wsX2_fewestFrom wsX2_mustBeCleaned := goodIn_ca (goodIn_r _ [7, 2, 8, 9, 10, 11, 12, 13, 16, 17, 18, 19, 20, 21, 22] (by decide +kernel) (by decide +kernel)) (goodIn_sub (fun _ h => List.mem_cons_of_mem _ (List.mem_append_right _ h)) (by decide +kernel))
set_option maxRecDepth 20000 in
theorem gX2_fewestFrom_X2_mustBeCleaned : GoodIn wsX2_fewestFrom (wsV RX2 84 RX2 yX2_mustBeCleaned wsX2_mustBeCleaned) := goodIn_app (goodIn_of _ (by decide +kernel)) ggX2_fewestFrom_X2_mustBeCleaned
set_option maxRecDepth 20000 in
theorem ggX2_fewestFrom_X2_fewestFrom : GoodIn wsX2_fewestFrom wsX2_fewestFrom := goodIn_ca (goodIn_r _ [0, 1, 2, 3, 4, 5, 6, 7, 8, 9, 10, 11, 12, 13, 14, 15, 16, 17, 18, 19, 20, 21, 22] (by decide +kernel) (by decide +kernel)) (goodIn_sub (fun _ h => List.mem_cons_of_mem _ (List.mem_append_right _ h)) (by decide +kernel))
set_option maxRecDepth 20000 in
theorem gX2_fewestFrom_X2_fewestFrom : GoodIn wsX2_fewestFrom (va_wsS RX2 73 yX2_fewestFrom wsX2_fewestFrom) := goodIn_app (goodIn_of _ (by decide +kernel)) ggX2_fewestFrom_X2_fewestFrom
theorem dX2_fewestFrom_0 : decode cX2_fewestFrom 0 = .ok (.iload 5, 2) := by decide +kernel
theorem dX2_fewestFrom_2 : decode cX2_fewestFrom 2 = .ok (.iload 6, 2) := by decide +kernel
theorem dX2_fewestFrom_4 : decode cX2_fewestFrom 4 = .ok (.if_icmp .lt 6, 3) := by decide +kernel
theorem dX2_fewestFrom_7 : decode cX2_fewestFrom 7 = .ok (.iload 6, 2) := by decide +kernel
theorem dX2_fewestFrom_9 : decode cX2_fewestFrom 9 = .ok (.ireturn, 1) := by decide +kernel
theorem dX2_fewestFrom_10 : decode cX2_fewestFrom 10 = .ok (.iload_n 1, 1) := by decide +kernel
theorem dX2_fewestFrom_11 : decode cX2_fewestFrom 11 = .ok (.aload_n 0, 1) := by decide +kernel
theorem dX2_fewestFrom_12 : decode cX2_fewestFrom 12 = .ok (.getfield 24, 3) := by decide +kernel
theorem dX2_fewestFrom_15 : decode cX2_fewestFrom 15 = .ok (.if_icmp .ge 9, 3) := by decide +kernel
theorem dX2_fewestFrom_18 : decode cX2_fewestFrom 18 = .ok (.iload_n 1, 1) := by decide +kernel
theorem dX2_fewestFrom_19 : decode cX2_fewestFrom 19 = .ok (.bipush 6, 2) := by decide +kernel
theorem dX2_fewestFrom_21 : decode cX2_fewestFrom 21 = .ok (.if_icmp .lt 6, 3) := by decide +kernel
theorem dX2_fewestFrom_24 : decode cX2_fewestFrom 24 = .ok (.iload 5, 2) := by decide +kernel
theorem dX2_fewestFrom_26 : decode cX2_fewestFrom 26 = .ok (.ireturn, 1) := by decide +kernel
theorem dX2_fewestFrom_27 : decode cX2_fewestFrom 27 = .ok (.iload 6, 2) := by decide +kernel
theorem dX2_fewestFrom_29 : decode cX2_fewestFrom 29 = .ok (.istore 7, 2) := by decide +kernel
theorem dX2_fewestFrom_31 : decode cX2_fewestFrom 31 = .ok (.iconst 0, 1) := by decide +kernel
theorem dX2_fewestFrom_32 : decode cX2_fewestFrom 32 = .ok (.istore 8, 2) := by decide +kernel
theorem dX2_fewestFrom_34 : decode cX2_fewestFrom 34 = .ok (.iload 8, 2) := by decide +kernel
theorem dX2_fewestFrom_36 : decode cX2_fewestFrom 36 = .ok (.aload_n 0, 1) := by decide +kernel
theorem dX2_fewestFrom_37 : decode cX2_fewestFrom 37 = .ok (.getfield 24, 3) := by decide +kernel
theorem dX2_fewestFrom_40 : decode cX2_fewestFrom 40 = .ok (.if_icmp .ge 85, 3) := by decide +kernel
theorem dX2_fewestFrom_43 : decode cX2_fewestFrom 43 = .ok (.iload 8, 2) := by decide +kernel
theorem dX2_fewestFrom_45 : decode cX2_fewestFrom 45 = .ok (.bipush 6, 2) := by decide +kernel
theorem dX2_fewestFrom_47 : decode cX2_fewestFrom 47 = .ok (.if_icmp .ge 78, 3) := by decide +kernel
theorem dX2_fewestFrom_50 : decode cX2_fewestFrom 50 = .ok (.iload_n 2, 1) := by decide +kernel
theorem dX2_fewestFrom_51 : decode cX2_fewestFrom 51 = .ok (.iconst 1, 1) := by decide +kernel
theorem dX2_fewestFrom_52 : decode cX2_fewestFrom 52 = .ok (.iload 8, 2) := by decide +kernel
theorem dX2_fewestFrom_54 : decode cX2_fewestFrom 54 = .ok (.ishl, 1) := by decide +kernel
theorem dX2_fewestFrom_55 : decode cX2_fewestFrom 55 = .ok (.iand, 1) := by decide +kernel
theorem dX2_fewestFrom_56 : decode cX2_fewestFrom 56 = .ok (.ifCond .ne 63, 3) := by decide +kernel
theorem dX2_fewestFrom_59 : decode cX2_fewestFrom 59 = .ok (.aload_n 0, 1) := by decide +kernel
theorem dX2_fewestFrom_60 : decode cX2_fewestFrom 60 = .ok (.iload 8, 2) := by decide +kernel
theorem dX2_fewestFrom_62 : decode cX2_fewestFrom 62 = .ok (.iload_n 3, 1) := by decide +kernel
theorem dX2_fewestFrom_63 : decode cX2_fewestFrom 63 = .ok (.iload 4, 2) := by decide +kernel
theorem dX2_fewestFrom_65 : decode cX2_fewestFrom 65 = .ok (.invokevirtual 84, 3) := by decide +kernel
theorem dX2_fewestFrom_68 : decode cX2_fewestFrom 68 = .ok (.istore 9, 2) := by decide +kernel
theorem dX2_fewestFrom_70 : decode cX2_fewestFrom 70 = .ok (.aload_n 0, 1) := by decide +kernel
theorem dX2_fewestFrom_71 : decode cX2_fewestFrom 71 = .ok (.iload_n 1, 1) := by decide +kernel
theorem dX2_fewestFrom_72 : decode cX2_fewestFrom 72 = .ok (.iconst 1, 1) := by decide +kernel
theorem dX2_fewestFrom_73 : decode cX2_fewestFrom 73 = .ok (.iadd, 1) := by decide +kernel
theorem dX2_fewestFrom_74 : decode cX2_fewestFrom 74 = .ok (.iload_n 2, 1) := by decide +kernel
theorem dX2_fewestFrom_75 : decode cX2_fewestFrom 75 = .ok (.iconst 1, 1) := by decide +kernel
theorem dX2_fewestFrom_76 : decode cX2_fewestFrom 76 = .ok (.iload 8, 2) := by decide +kernel
theorem dX2_fewestFrom_78 : decode cX2_fewestFrom 78 = .ok (.ishl, 1) := by decide +kernel
theorem dX2_fewestFrom_79 : decode cX2_fewestFrom 79 = .ok (.ior, 1) := by decide +kernel
theorem dX2_fewestFrom_80 : decode cX2_fewestFrom 80 = .ok (.aload_n 0, 1) := by decide +kernel
theorem dX2_fewestFrom_81 : decode cX2_fewestFrom 81 = .ok (.getfield 15, 3) := by decide +kernel
theorem dX2_fewestFrom_84 : decode cX2_fewestFrom 84 = .ok (.iload 8, 2) := by decide +kernel
theorem dX2_fewestFrom_86 : decode cX2_fewestFrom 86 = .ok (.iaload, 1) := by decide +kernel
theorem dX2_fewestFrom_87 : decode cX2_fewestFrom 87 = .ok (.iload 9, 2) := by decide +kernel
theorem dX2_fewestFrom_89 : decode cX2_fewestFrom 89 = .ok (.ifCond .eq 7, 3) := by decide +kernel
theorem dX2_fewestFrom_92 : decode cX2_fewestFrom 92 = .ok (.iconst (-1), 1) := by decide +kernel
theorem dX2_fewestFrom_93 : decode cX2_fewestFrom 93 = .ok (.goto 5, 3) := by decide +kernel
theorem dX2_fewestFrom_96 : decode cX2_fewestFrom 96 = .ok (.iload 4, 2) := by decide +kernel
theorem dX2_fewestFrom_98 : decode cX2_fewestFrom 98 = .ok (.iload 9, 2) := by decide +kernel
theorem dX2_fewestFrom_100 : decode cX2_fewestFrom 100 = .ok (.ifCond .eq 10, 3) := by decide +kernel
theorem dX2_fewestFrom_103 : decode cX2_fewestFrom 103 = .ok (.iload 5, 2) := by decide +kernel
theorem dX2_fewestFrom_105 : decode cX2_fewestFrom 105 = .ok (.iconst 1, 1) := by decide +kernel
theorem dX2_fewestFrom_106 : decode cX2_fewestFrom 106 = .ok (.iadd, 1) := by decide +kernel
theorem dX2_fewestFrom_107 : decode cX2_fewestFrom 107 = .ok (.goto 5, 3) := by decide +kernel
theorem dX2_fewestFrom_110 : decode cX2_fewestFrom 110 = .ok (.iload 5, 2) := by decide +kernel
theorem dX2_fewestFrom_112 : decode cX2_fewestFrom 112 = .ok (.iload 7, 2) := by decide +kernel
theorem dX2_fewestFrom_114 : decode cX2_fewestFrom 114 = .ok (.invokestatic 73, 3) := by decide +kernel
theorem dX2_fewestFrom_117 : decode cX2_fewestFrom 117 = .ok (.istore 7, 2) := by decide +kernel
theorem dX2_fewestFrom_119 : decode cX2_fewestFrom 119 = .ok (.iinc 8 1, 3) := by decide +kernel
theorem dX2_fewestFrom_122 : decode cX2_fewestFrom 122 = .ok (.goto (-88), 3) := by decide +kernel
theorem dX2_fewestFrom_125 : decode cX2_fewestFrom 125 = .ok (.iload 7, 2) := by decide +kernel
theorem dX2_fewestFrom_127 : decode cX2_fewestFrom 127 = .ok (.ireturn, 1) := by decide +kernel
set_option maxRecDepth 20000 in
theorem ggX2_leastFrom_X2_mustBeCleaned : GoodIn wsX2_leastFrom wsX2_mustBeCleaned := goodIn_ca (goodIn_r _ [13, 4, 14, 15, 16, 17, 18, 19, 22, 23, 24, 25, 26, 27, 28] (by decide +kernel) (by decide +kernel)) (goodIn_sub (fun _ h => List.mem_cons_of_mem _ (List.mem_append_right _ h)) (by decide +kernel))
set_option maxRecDepth 20000 in
theorem gX2_leastFrom_X2_mustBeCleaned : GoodIn wsX2_leastFrom (wsV RX2 84 RX2 yX2_mustBeCleaned wsX2_mustBeCleaned) := goodIn_app (goodIn_of _ (by decide +kernel)) ggX2_leastFrom_X2_mustBeCleaned
set_option maxRecDepth 20000 in
theorem ggX2_leastFrom_X2_leastFrom : GoodIn wsX2_leastFrom wsX2_leastFrom := goodIn_ca (goodIn_r _ [0, 1, 2, 3, 4, 5, 6, 7, 8, 9, 10, 11, 12, 13, 14, 15, 16, 17, 18, 19, 20, 21, 22, 23, 24, 25, 26, 27, 28] (by decide +kernel) (by decide +kernel)) (goodIn_sub (fun _ h => List.mem_cons_of_mem _ (List.mem_append_right _ h)) (by decide +kernel))
set_option maxRecDepth 20000 in
theorem gX2_leastFrom_X2_leastFrom : GoodIn wsX2_leastFrom (va_wsS RX2 88 yX2_leastFrom wsX2_leastFrom) := goodIn_app (goodIn_of _ (by decide +kernel)) ggX2_leastFrom_X2_leastFrom
theorem dX2_leastFrom_0 : decode cX2_leastFrom 0 = .ok (.iload_n 1, 1) := by decide +kernel
theorem dX2_leastFrom_1 : decode cX2_leastFrom 1 = .ok (.aload_n 0, 1) := by decide +kernel
theorem dX2_leastFrom_2 : decode cX2_leastFrom 2 = .ok (.getfield 24, 3) := by decide +kernel
theorem dX2_leastFrom_5 : decode cX2_leastFrom 5 = .ok (.if_icmp .ge 9, 3) := by decide +kernel
theorem dX2_leastFrom_8 : decode cX2_leastFrom 8 = .ok (.iload_n 1, 1) := by decide +kernel
theorem dX2_leastFrom_9 : decode cX2_leastFrom 9 = .ok (.bipush 6, 2) := by decide +kernel
theorem dX2_leastFrom_11 : decode cX2_leastFrom 11 = .ok (.if_icmp .lt 6, 3) := by decide +kernel
theorem dX2_leastFrom_14 : decode cX2_leastFrom 14 = .ok (.iload 5, 2) := by decide +kernel
theorem dX2_leastFrom_16 : decode cX2_leastFrom 16 = .ok (.ireturn, 1) := by decide +kernel
theorem dX2_leastFrom_17 : decode cX2_leastFrom 17 = .ok (.ldc 99, 2) := by decide +kernel
theorem dX2_leastFrom_19 : decode cX2_leastFrom 19 = .ok (.istore 6, 2) := by decide +kernel
theorem dX2_leastFrom_21 : decode cX2_leastFrom 21 = .ok (.iconst 0, 1) := by decide +kernel
theorem dX2_leastFrom_22 : decode cX2_leastFrom 22 = .ok (.istore 7, 2) := by decide +kernel
theorem dX2_leastFrom_24 : decode cX2_leastFrom 24 = .ok (.iload 7, 2) := by decide +kernel
theorem dX2_leastFrom_26 : decode cX2_leastFrom 26 = .ok (.aload_n 0, 1) := by decide +kernel
theorem dX2_leastFrom_27 : decode cX2_leastFrom 27 = .ok (.getfield 24, 3) := by decide +kernel
theorem dX2_leastFrom_30 : decode cX2_leastFrom 30 = .ok (.if_icmp .ge 99, 3) := by decide +kernel
theorem dX2_leastFrom_33 : decode cX2_leastFrom 33 = .ok (.iload 7, 2) := by decide +kernel
theorem dX2_leastFrom_35 : decode cX2_leastFrom 35 = .ok (.bipush 6, 2) := by decide +kernel
theorem dX2_leastFrom_37 : decode cX2_leastFrom 37 = .ok (.if_icmp .ge 92, 3) := by decide +kernel
theorem dX2_leastFrom_40 : decode cX2_leastFrom 40 = .ok (.iload_n 2, 1) := by decide +kernel
theorem dX2_leastFrom_41 : decode cX2_leastFrom 41 = .ok (.iconst 1, 1) := by decide +kernel
theorem dX2_leastFrom_42 : decode cX2_leastFrom 42 = .ok (.iload 7, 2) := by decide +kernel
theorem dX2_leastFrom_44 : decode cX2_leastFrom 44 = .ok (.ishl, 1) := by decide +kernel
theorem dX2_leastFrom_45 : decode cX2_leastFrom 45 = .ok (.iand, 1) := by decide +kernel
theorem dX2_leastFrom_46 : decode cX2_leastFrom 46 = .ok (.ifCond .ne 77, 3) := by decide +kernel
theorem dX2_leastFrom_49 : decode cX2_leastFrom 49 = .ok (.aload_n 0, 1) := by decide +kernel
theorem dX2_leastFrom_50 : decode cX2_leastFrom 50 = .ok (.iload 7, 2) := by decide +kernel
theorem dX2_leastFrom_52 : decode cX2_leastFrom 52 = .ok (.iload_n 3, 1) := by decide +kernel
theorem dX2_leastFrom_53 : decode cX2_leastFrom 53 = .ok (.iload 4, 2) := by decide +kernel
theorem dX2_leastFrom_55 : decode cX2_leastFrom 55 = .ok (.invokevirtual 84, 3) := by decide +kernel
theorem dX2_leastFrom_58 : decode cX2_leastFrom 58 = .ok (.istore 8, 2) := by decide +kernel
theorem dX2_leastFrom_60 : decode cX2_leastFrom 60 = .ok (.iload 5, 2) := by decide +kernel
theorem dX2_leastFrom_62 : decode cX2_leastFrom 62 = .ok (.aload_n 0, 1) := by decide +kernel
theorem dX2_leastFrom_63 : decode cX2_leastFrom 63 = .ok (.getfield 21, 3) := by decide +kernel
theorem dX2_leastFrom_66 : decode cX2_leastFrom 66 = .ok (.iload 7, 2) := by decide +kernel
theorem dX2_leastFrom_68 : decode cX2_leastFrom 68 = .ok (.iaload, 1) := by decide +kernel
theorem dX2_leastFrom_69 : decode cX2_leastFrom 69 = .ok (.iadd, 1) := by decide +kernel
theorem dX2_leastFrom_70 : decode cX2_leastFrom 70 = .ok (.iload 8, 2) := by decide +kernel
theorem dX2_leastFrom_72 : decode cX2_leastFrom 72 = .ok (.ifCond .eq 7, 3) := by decide +kernel
theorem dX2_leastFrom_75 : decode cX2_leastFrom 75 = .ok (.iconst 3, 1) := by decide +kernel
theorem dX2_leastFrom_76 : decode cX2_leastFrom 76 = .ok (.goto 4, 3) := by decide +kernel
theorem dX2_leastFrom_79 : decode cX2_leastFrom 79 = .ok (.iconst 0, 1) := by decide +kernel
theorem dX2_leastFrom_80 : decode cX2_leastFrom 80 = .ok (.iadd, 1) := by decide +kernel
theorem dX2_leastFrom_81 : decode cX2_leastFrom 81 = .ok (.istore 9, 2) := by decide +kernel
theorem dX2_leastFrom_83 : decode cX2_leastFrom 83 = .ok (.iload 6, 2) := by decide +kernel
theorem dX2_leastFrom_85 : decode cX2_leastFrom 85 = .ok (.aload_n 0, 1) := by decide +kernel
theorem dX2_leastFrom_86 : decode cX2_leastFrom 86 = .ok (.iload_n 1, 1) := by decide +kernel
theorem dX2_leastFrom_87 : decode cX2_leastFrom 87 = .ok (.iconst 1, 1) := by decide +kernel
theorem dX2_leastFrom_88 : decode cX2_leastFrom 88 = .ok (.iadd, 1) := by decide +kernel
theorem dX2_leastFrom_89 : decode cX2_leastFrom 89 = .ok (.iload_n 2, 1) := by decide +kernel
theorem dX2_leastFrom_90 : decode cX2_leastFrom 90 = .ok (.iconst 1, 1) := by decide +kernel
theorem dX2_leastFrom_91 : decode cX2_leastFrom 91 = .ok (.iload 7, 2) := by decide +kernel
theorem dX2_leastFrom_93 : decode cX2_leastFrom 93 = .ok (.ishl, 1) := by decide +kernel
theorem dX2_leastFrom_94 : decode cX2_leastFrom 94 = .ok (.ior, 1) := by decide +kernel
theorem dX2_leastFrom_95 : decode cX2_leastFrom 95 = .ok (.aload_n 0, 1) := by decide +kernel
theorem dX2_leastFrom_96 : decode cX2_leastFrom 96 = .ok (.getfield 15, 3) := by decide +kernel
theorem dX2_leastFrom_99 : decode cX2_leastFrom 99 = .ok (.iload 7, 2) := by decide +kernel
theorem dX2_leastFrom_101 : decode cX2_leastFrom 101 = .ok (.iaload, 1) := by decide +kernel
theorem dX2_leastFrom_102 : decode cX2_leastFrom 102 = .ok (.iload 8, 2) := by decide +kernel
theorem dX2_leastFrom_104 : decode cX2_leastFrom 104 = .ok (.ifCond .eq 7, 3) := by decide +kernel
theorem dX2_leastFrom_107 : decode cX2_leastFrom 107 = .ok (.iconst (-1), 1) := by decide +kernel
theorem dX2_leastFrom_108 : decode cX2_leastFrom 108 = .ok (.goto 5, 3) := by decide +kernel
theorem dX2_leastFrom_111 : decode cX2_leastFrom 111 = .ok (.iload 4, 2) := by decide +kernel
theorem dX2_leastFrom_113 : decode cX2_leastFrom 113 = .ok (.iload 9, 2) := by decide +kernel
theorem dX2_leastFrom_115 : decode cX2_leastFrom 115 = .ok (.invokestatic 88, 3) := by decide +kernel
theorem dX2_leastFrom_118 : decode cX2_leastFrom 118 = .ok (.invokestatic 100, 3) := by decide +kernel
theorem dX2_leastFrom_121 : decode cX2_leastFrom 121 = .ok (.istore 6, 2) := by decide +kernel
theorem dX2_leastFrom_123 : decode cX2_leastFrom 123 = .ok (.iinc 7 1, 3) := by decide +kernel
theorem dX2_leastFrom_126 : decode cX2_leastFrom 126 = .ok (.goto (-102), 3) := by decide +kernel
theorem dX2_leastFrom_129 : decode cX2_leastFrom 129 = .ok (.iload 6, 2) := by decide +kernel
theorem dX2_leastFrom_131 : decode cX2_leastFrom 131 = .ok (.ireturn, 1) := by decide +kernel
theorem dX3_init_0 : decode cX3_init 0 = .ok (.aload_n 0, 1) := by decide +kernel
theorem dX3_init_1 : decode cX3_init 1 = .ok (.invokespecial 3, 3) := by decide +kernel
theorem dX3_init_4 : decode cX3_init 4 = .ok (.aload_n 0, 1) := by decide +kernel
theorem dX3_init_5 : decode cX3_init 5 = .ok (.aload_n 1, 1) := by decide +kernel
theorem dX3_init_6 : decode cX3_init 6 = .ok (.putfield 9, 3) := by decide +kernel
theorem dX3_init_9 : decode cX3_init 9 = .ok (.aload_n 0, 1) := by decide +kernel
theorem dX3_init_10 : decode cX3_init 10 = .ok (.iconst 3, 1) := by decide +kernel
theorem dX3_init_11 : decode cX3_init 11 = .ok (.newarray .int, 2) := by decide +kernel
theorem dX3_init_13 : decode cX3_init 13 = .ok (.putfield 15, 3) := by decide +kernel
theorem dX3_init_16 : decode cX3_init 16 = .ok (.return_, 1) := by decide +kernel
theorem dX4_init_0 : decode cX4_init 0 = .ok (.aload_n 0, 1) := by decide +kernel
theorem dX4_init_1 : decode cX4_init 1 = .ok (.invokespecial 1, 3) := by decide +kernel
theorem dX4_init_4 : decode cX4_init 4 = .ok (.aload_n 0, 1) := by decide +kernel
theorem dX4_init_5 : decode cX4_init 5 = .ok (.iload_n 1, 1) := by decide +kernel
theorem dX4_init_6 : decode cX4_init 6 = .ok (.putfield 7, 3) := by decide +kernel
theorem dX4_init_9 : decode cX4_init 9 = .ok (.aload_n 0, 1) := by decide +kernel
theorem dX4_init_10 : decode cX4_init 10 = .ok (.iload_n 2, 1) := by decide +kernel
theorem dX4_init_11 : decode cX4_init 11 = .ok (.putfield 13, 3) := by decide +kernel
theorem dX4_init_14 : decode cX4_init 14 = .ok (.aload_n 0, 1) := by decide +kernel
theorem dX4_init_15 : decode cX4_init 15 = .ok (.iload_n 3, 1) := by decide +kernel
theorem dX4_init_16 : decode cX4_init 16 = .ok (.putfield 16, 3) := by decide +kernel
theorem dX4_init_19 : decode cX4_init 19 = .ok (.return_, 1) := by decide +kernel
theorem dX4_set_0 : decode cX4_set 0 = .ok (.aload_n 0, 1) := by decide +kernel
theorem dX4_set_1 : decode cX4_set 1 = .ok (.iload_n 1, 1) := by decide +kernel
theorem dX4_set_2 : decode cX4_set 2 = .ok (.putfield 7, 3) := by decide +kernel
theorem dX4_set_5 : decode cX4_set 5 = .ok (.aload_n 0, 1) := by decide +kernel
theorem dX4_set_6 : decode cX4_set 6 = .ok (.iload_n 2, 1) := by decide +kernel
theorem dX4_set_7 : decode cX4_set 7 = .ok (.putfield 13, 3) := by decide +kernel
theorem dX4_set_10 : decode cX4_set 10 = .ok (.aload_n 0, 1) := by decide +kernel
theorem dX4_set_11 : decode cX4_set 11 = .ok (.iload_n 3, 1) := by decide +kernel
theorem dX4_set_12 : decode cX4_set 12 = .ok (.putfield 16, 3) := by decide +kernel
theorem dX4_set_15 : decode cX4_set 15 = .ok (.return_, 1) := by decide +kernel
theorem dX4_distanceTo_0 : decode cX4_distanceTo 0 = .ok (.aload_n 0, 1) := by decide +kernel
theorem dX4_distanceTo_1 : decode cX4_distanceTo 1 = .ok (.getfield 7, 3) := by decide +kernel
theorem dX4_distanceTo_4 : decode cX4_distanceTo 4 = .ok (.aload_n 1, 1) := by decide +kernel
theorem dX4_distanceTo_5 : decode cX4_distanceTo 5 = .ok (.getfield 7, 3) := by decide +kernel
theorem dX4_distanceTo_8 : decode cX4_distanceTo 8 = .ok (.isub, 1) := by decide +kernel
theorem dX4_distanceTo_9 : decode cX4_distanceTo 9 = .ok (.invokestatic 19, 3) := by decide +kernel
theorem dX4_distanceTo_12 : decode cX4_distanceTo 12 = .ok (.aload_n 0, 1) := by decide +kernel
theorem dX4_distanceTo_13 : decode cX4_distanceTo 13 = .ok (.getfield 13, 3) := by decide +kernel
theorem dX4_distanceTo_16 : decode cX4_distanceTo 16 = .ok (.aload_n 1, 1) := by decide +kernel
theorem dX4_distanceTo_17 : decode cX4_distanceTo 17 = .ok (.getfield 13, 3) := by decide +kernel
theorem dX4_distanceTo_20 : decode cX4_distanceTo 20 = .ok (.isub, 1) := by decide +kernel
theorem dX4_distanceTo_21 : decode cX4_distanceTo 21 = .ok (.invokestatic 19, 3) := by decide +kernel
theorem dX4_distanceTo_24 : decode cX4_distanceTo 24 = .ok (.iadd, 1) := by decide +kernel
theorem dX4_distanceTo_25 : decode cX4_distanceTo 25 = .ok (.aload_n 0, 1) := by decide +kernel
theorem dX4_distanceTo_26 : decode cX4_distanceTo 26 = .ok (.getfield 16, 3) := by decide +kernel
theorem dX4_distanceTo_29 : decode cX4_distanceTo 29 = .ok (.aload_n 1, 1) := by decide +kernel
theorem dX4_distanceTo_30 : decode cX4_distanceTo 30 = .ok (.getfield 16, 3) := by decide +kernel
theorem dX4_distanceTo_33 : decode cX4_distanceTo 33 = .ok (.isub, 1) := by decide +kernel
theorem dX4_distanceTo_34 : decode cX4_distanceTo 34 = .ok (.invokestatic 19, 3) := by decide +kernel
theorem dX4_distanceTo_37 : decode cX4_distanceTo 37 = .ok (.iadd, 1) := by decide +kernel
theorem dX4_distanceTo_38 : decode cX4_distanceTo 38 = .ok (.ireturn, 1) := by decide +kernel
theorem dX5_init_0 : decode cX5_init 0 = .ok (.aload_n 0, 1) := by decide +kernel
theorem dX5_init_1 : decode cX5_init 1 = .ok (.invokespecial 3, 3) := by decide +kernel
theorem dX5_init_4 : decode cX5_init 4 = .ok (.aload_n 0, 1) := by decide +kernel
theorem dX5_init_5 : decode cX5_init 5 = .ok (.iload_n 1, 1) := by decide +kernel
theorem dX5_init_6 : decode cX5_init 6 = .ok (.putfield 9, 3) := by decide +kernel
theorem dX5_init_9 : decode cX5_init 9 = .ok (.aload_n 0, 1) := by decide +kernel
theorem dX5_init_10 : decode cX5_init 10 = .ok (.iload_n 2, 1) := by decide +kernel
theorem dX5_init_11 : decode cX5_init 11 = .ok (.putfield 15, 3) := by decide +kernel
theorem dX5_init_14 : decode cX5_init 14 = .ok (.aload_n 0, 1) := by decide +kernel
theorem dX5_init_15 : decode cX5_init 15 = .ok (.iconst (-1), 1) := by decide +kernel
theorem dX5_init_16 : decode cX5_init 16 = .ok (.putfield 18, 3) := by decide +kernel
theorem dX5_init_19 : decode cX5_init 19 = .ok (.aload_n 0, 1) := by decide +kernel
theorem dX5_init_20 : decode cX5_init 20 = .ok (.iconst (-1), 1) := by decide +kernel
theorem dX5_init_21 : decode cX5_init 21 = .ok (.putfield 21, 3) := by decide +kernel
theorem dX5_init_24 : decode cX5_init 24 = .ok (.return_, 1) := by decide +kernel
set_option maxRecDepth 20000 in
theorem ggX6_init_X2_init : GoodIn wsX6_init wsX2_init := goodIn_r _ [22, 23, 2, 3, 12, 24, 25, 26, 27, 39, 40, 41, 42, 43, 44, 45] (by decide +kernel) (by decide +kernel)
set_option maxRecDepth 20000 in
theorem gX6_init_X2_init : GoodIn wsX6_init (wsX2_init) := ggX6_init_X2_init
theorem dX6_init_0 : decode cX6_init 0 = .ok (.aload_n 0, 1) := by decide +kernel
theorem dX6_init_1 : decode cX6_init 1 = .ok (.invokespecial 1, 3) := by decide +kernel
theorem dX6_init_4 : decode cX6_init 4 = .ok (.aload_n 0, 1) := by decide +kernel
theorem dX6_init_5 : decode cX6_init 5 = .ok (.bipush 8, 2) := by decide +kernel
theorem dX6_init_7 : decode cX6_init 7 = .ok (.anewarray 9, 3) := by decide +kernel
theorem dX6_init_10 : decode cX6_init 10 = .ok (.putfield 11, 3) := by decide +kernel
theorem dX6_init_13 : decode cX6_init 13 = .ok (.aload_n 0, 1) := by decide +kernel
theorem dX6_init_14 : decode cX6_init 14 = .ok (.bipush 6, 2) := by decide +kernel
theorem dX6_init_16 : decode cX6_init 16 = .ok (.anewarray 15, 3) := by decide +kernel
theorem dX6_init_19 : decode cX6_init 19 = .ok (.putfield 17, 3) := by decide +kernel
theorem dX6_init_22 : decode cX6_init 22 = .ok (.aload_n 0, 1) := by decide +kernel
theorem dX6_init_23 : decode cX6_init 23 = .ok (.bipush 24, 2) := by decide +kernel
theorem dX6_init_25 : decode cX6_init 25 = .ok (.anewarray 21, 3) := by decide +kernel
theorem dX6_init_28 : decode cX6_init 28 = .ok (.putfield 23, 3) := by decide +kernel
theorem dX6_init_31 : decode cX6_init 31 = .ok (.aload_n 0, 1) := by decide +kernel
theorem dX6_init_32 : decode cX6_init 32 = .ok (.iconst 4, 1) := by decide +kernel
theorem dX6_init_33 : decode cX6_init 33 = .ok (.anewarray 27, 3) := by decide +kernel
theorem dX6_init_36 : decode cX6_init 36 = .ok (.putfield 29, 3) := by decide +kernel
theorem dX6_init_39 : decode cX6_init 39 = .ok (.aload_n 0, 1) := by decide +kernel
theorem dX6_init_40 : decode cX6_init 40 = .ok (.iconst 3, 1) := by decide +kernel
theorem dX6_init_41 : decode cX6_init 41 = .ok (.newarray .int, 2) := by decide +kernel
theorem dX6_init_43 : decode cX6_init 43 = .ok (.putfield 33, 3) := by decide +kernel
theorem dX6_init_46 : decode cX6_init 46 = .ok (.aload_n 0, 1) := by decide +kernel
theorem dX6_init_47 : decode cX6_init 47 = .ok (.iconst 3, 1) := by decide +kernel
theorem dX6_init_48 : decode cX6_init 48 = .ok (.newarray .long, 2) := by decide +kernel
theorem dX6_init_50 : decode cX6_init 50 = .ok (.putfield 37, 3) := by decide +kernel
theorem dX6_init_53 : decode cX6_init 53 = .ok (.aload_n 0, 1) := by decide +kernel
theorem dX6_init_54 : decode cX6_init 54 = .ok (.new 41, 3) := by decide +kernel
theorem dX6_init_57 : decode cX6_init 57 = .ok (.dup, 1) := by decide +kernel
theorem dX6_init_58 : decode cX6_init 58 = .ok (.invokespecial 43, 3) := by decide +kernel
theorem dX6_init_61 : decode cX6_init 61 = .ok (.putfield 44, 3) := by decide +kernel
theorem dX6_init_64 : decode cX6_init 64 = .ok (.return_, 1) := by decide +kernel
set_option maxRecDepth 20000 in
theorem ggX6_addRecipe_X6_checkShade : GoodIn wsX6_addRecipe wsX6_checkShade := goodIn_ca (goodIn_r _ [14, 15, 16, 13, 17, 18, 19] (by decide +kernel) (by decide +kernel)) (goodIn_sub (fun _ h => List.mem_cons_of_mem _ (List.mem_append_right _ h)) (by decide +kernel))
set_option maxRecDepth 20000 in
theorem gX6_addRecipe_X6_checkShade : GoodIn wsX6_addRecipe (va_wsS RX6 48 yX6_checkShade wsX6_checkShade) := goodIn_app (goodIn_of _ (by decide +kernel)) ggX6_addRecipe_X6_checkShade
set_option maxRecDepth 20000 in
theorem ggX6_addRecipe_X4_init : GoodIn wsX6_addRecipe wsX4_init := goodIn_r _ [22, 23, 24, 25, 26, 27, 28, 49, 50, 51] (by decide +kernel) (by decide +kernel)
set_option maxRecDepth 20000 in
theorem gX6_addRecipe_X4_init : GoodIn wsX6_addRecipe (wsX4_init) := ggX6_addRecipe_X4_init
set_option maxRecDepth 20000 in
theorem ggX6_addRecipe_X3_init : GoodIn wsX6_addRecipe wsX3_init := goodIn_r _ [31, 32, 24, 25, 33, 34, 35, 47, 48] (by decide +kernel) (by decide +kernel)
set_option maxRecDepth 20000 in
theorem gX6_addRecipe_X3_init : GoodIn wsX6_addRecipe (wsX3_init) := ggX6_addRecipe_X3_init
theorem dX6_addRecipe_0 : decode cX6_addRecipe 0 = .ok (.iload_n 1, 1) := by decide +kernel
theorem dX6_addRecipe_1 : decode cX6_addRecipe 1 = .ok (.iload_n 2, 1) := by decide +kernel
theorem dX6_addRecipe_2 : decode cX6_addRecipe 2 = .ok (.iload_n 3, 1) := by decide +kernel
theorem dX6_addRecipe_3 : decode cX6_addRecipe 3 = .ok (.invokestatic 48, 3) := by decide +kernel
theorem dX6_addRecipe_6 : decode cX6_addRecipe 6 = .ok (.aload_n 0, 1) := by decide +kernel
theorem dX6_addRecipe_7 : decode cX6_addRecipe 7 = .ok (.getfield 52, 3) := by decide +kernel
theorem dX6_addRecipe_10 : decode cX6_addRecipe 10 = .ok (.ifCond .lt 15, 3) := by decide +kernel
theorem dX6_addRecipe_13 : decode cX6_addRecipe 13 = .ok (.aload_n 0, 1) := by decide +kernel
theorem dX6_addRecipe_14 : decode cX6_addRecipe 14 = .ok (.getfield 52, 3) := by decide +kernel
theorem dX6_addRecipe_17 : decode cX6_addRecipe 17 = .ok (.aload_n 0, 1) := by decide +kernel
theorem dX6_addRecipe_18 : decode cX6_addRecipe 18 = .ok (.getfield 11, 3) := by decide +kernel
theorem dX6_addRecipe_21 : decode cX6_addRecipe 21 = .ok (.arraylength, 1) := by decide +kernel
theorem dX6_addRecipe_22 : decode cX6_addRecipe 22 = .ok (.if_icmp .lt 11, 3) := by decide +kernel
theorem dX6_addRecipe_25 : decode cX6_addRecipe 25 = .ok (.new 56, 3) := by decide +kernel
theorem dX6_addRecipe_28 : decode cX6_addRecipe 28 = .ok (.dup, 1) := by decide +kernel
theorem dX6_addRecipe_29 : decode cX6_addRecipe 29 = .ok (.invokespecial 58, 3) := by decide +kernel
theorem dX6_addRecipe_32 : decode cX6_addRecipe 32 = .ok (.athrow, 1) := by decide +kernel
theorem dX6_addRecipe_33 : decode cX6_addRecipe 33 = .ok (.aload_n 0, 1) := by decide +kernel
theorem dX6_addRecipe_34 : decode cX6_addRecipe 34 = .ok (.getfield 11, 3) := by decide +kernel
theorem dX6_addRecipe_37 : decode cX6_addRecipe 37 = .ok (.aload_n 0, 1) := by decide +kernel
theorem dX6_addRecipe_38 : decode cX6_addRecipe 38 = .ok (.getfield 52, 3) := by decide +kernel
theorem dX6_addRecipe_41 : decode cX6_addRecipe 41 = .ok (.new 9, 3) := by decide +kernel
theorem dX6_addRecipe_44 : decode cX6_addRecipe 44 = .ok (.dup, 1) := by decide +kernel
theorem dX6_addRecipe_45 : decode cX6_addRecipe 45 = .ok (.new 59, 3) := by decide +kernel
theorem dX6_addRecipe_48 : decode cX6_addRecipe 48 = .ok (.dup, 1) := by decide +kernel
theorem dX6_addRecipe_49 : decode cX6_addRecipe 49 = .ok (.iload_n 1, 1) := by decide +kernel
theorem dX6_addRecipe_50 : decode cX6_addRecipe 50 = .ok (.iload_n 2, 1) := by decide +kernel
theorem dX6_addRecipe_51 : decode cX6_addRecipe 51 = .ok (.iload_n 3, 1) := by decide +kernel
theorem dX6_addRecipe_52 : decode cX6_addRecipe 52 = .ok (.invokespecial 61, 3) := by decide +kernel
theorem dX6_addRecipe_55 : decode cX6_addRecipe 55 = .ok (.invokespecial 63, 3) := by decide +kernel
theorem dX6_addRecipe_58 : decode cX6_addRecipe 58 = .ok (.aastore, 1) := by decide +kernel
theorem dX6_addRecipe_59 : decode cX6_addRecipe 59 = .ok (.aload_n 0, 1) := by decide +kernel
theorem dX6_addRecipe_60 : decode cX6_addRecipe 60 = .ok (.dup, 1) := by decide +kernel
theorem dX6_addRecipe_61 : decode cX6_addRecipe 61 = .ok (.getfield 52, 3) := by decide +kernel
theorem dX6_addRecipe_64 : decode cX6_addRecipe 64 = .ok (.dup_x1, 1) := by decide +kernel
theorem dX6_addRecipe_65 : decode cX6_addRecipe 65 = .ok (.iconst 1, 1) := by decide +kernel
theorem dX6_addRecipe_66 : decode cX6_addRecipe 66 = .ok (.iadd, 1) := by decide +kernel
theorem dX6_addRecipe_67 : decode cX6_addRecipe 67 = .ok (.putfield 52, 3) := by decide +kernel
theorem dX6_addRecipe_70 : decode cX6_addRecipe 70 = .ok (.ireturn, 1) := by decide +kernel
set_option maxRecDepth 20000 in
theorem ggX6_setDye_X6_recipeNumbered : GoodIn wsX6_setDye wsX6_recipeNumbered := goodIn_ca (goodIn_r _ [6, 7, 8, 9, 20, 21, 22, 23, 24, 25, 26, 27, 28, 29, 30] (by decide +kernel) (by decide +kernel)) (goodIn_sub (fun _ h => List.mem_cons_of_mem _ (List.mem_append_left _ (List.mem_append_right _ h))) (by decide +kernel))
set_option maxRecDepth 20000 in
theorem gX6_setDye_X6_recipeNumbered : GoodIn wsX6_setDye (wsV RX6 66 RX6 yX6_recipeNumbered wsX6_recipeNumbered) := goodIn_app (goodIn_of _ (by decide +kernel)) ggX6_setDye_X6_recipeNumbered
set_option maxRecDepth 20000 in
theorem ggX6_setDye_X6_checkDye : GoodIn wsX6_setDye wsX6_checkDye := goodIn_ca (goodIn_r _ [12, 13, 14, 5, 15, 16, 17] (by decide +kernel) (by decide +kernel)) (goodIn_sub (fun _ h => List.mem_cons_of_mem _ (List.mem_append_right _ h)) (by decide +kernel))
set_option maxRecDepth 20000 in
theorem gX6_setDye_X6_checkDye : GoodIn wsX6_setDye (va_wsS RX6 70 yX6_checkDye wsX6_checkDye) := goodIn_app (goodIn_of _ (by decide +kernel)) ggX6_setDye_X6_checkDye
set_option maxRecDepth 20000 in
theorem ggX6_setDye_X6_checkRange : GoodIn wsX6_setDye wsX6_checkRange := goodIn_ca (goodIn_r _ [15, 16, 17] (by decide +kernel) (by decide +kernel)) (goodIn_sub (fun _ h => List.mem_cons_of_mem _ (List.mem_append_right _ h)) (by decide +kernel))
set_option maxRecDepth 20000 in
theorem gX6_setDye_X6_checkRange : GoodIn wsX6_setDye (va_wsS RX6 74 yX6_checkRange wsX6_checkRange) := goodIn_app (goodIn_of _ (by decide +kernel)) ggX6_setDye_X6_checkRange
theorem dX6_setDye_0 : decode cX6_setDye 0 = .ok (.aload_n 0, 1) := by decide +kernel
theorem dX6_setDye_1 : decode cX6_setDye 1 = .ok (.iload_n 1, 1) := by decide +kernel
theorem dX6_setDye_2 : decode cX6_setDye 2 = .ok (.invokevirtual 66, 3) := by decide +kernel
theorem dX6_setDye_5 : decode cX6_setDye 5 = .ok (.astore 4, 2) := by decide +kernel
theorem dX6_setDye_7 : decode cX6_setDye 7 = .ok (.iload_n 2, 1) := by decide +kernel
theorem dX6_setDye_8 : decode cX6_setDye 8 = .ok (.invokestatic 70, 3) := by decide +kernel
theorem dX6_setDye_11 : decode cX6_setDye 11 = .ok (.iload_n 3, 1) := by decide +kernel
theorem dX6_setDye_12 : decode cX6_setDye 12 = .ok (.iconst 0, 1) := by decide +kernel
theorem dX6_setDye_13 : decode cX6_setDye 13 = .ok (.sipush 5000, 3) := by decide +kernel
theorem dX6_setDye_16 : decode cX6_setDye 16 = .ok (.invokestatic 74, 3) := by decide +kernel
theorem dX6_setDye_19 : decode cX6_setDye 19 = .ok (.aload 4, 2) := by decide +kernel
theorem dX6_setDye_21 : decode cX6_setDye 21 = .ok (.getfield 77, 3) := by decide +kernel
theorem dX6_setDye_24 : decode cX6_setDye 24 = .ok (.iload_n 2, 1) := by decide +kernel
theorem dX6_setDye_25 : decode cX6_setDye 25 = .ok (.iaload, 1) := by decide +kernel
theorem dX6_setDye_26 : decode cX6_setDye 26 = .ok (.istore 5, 2) := by decide +kernel
theorem dX6_setDye_28 : decode cX6_setDye 28 = .ok (.aload 4, 2) := by decide +kernel
theorem dX6_setDye_30 : decode cX6_setDye 30 = .ok (.getfield 77, 3) := by decide +kernel
theorem dX6_setDye_33 : decode cX6_setDye 33 = .ok (.iload_n 2, 1) := by decide +kernel
theorem dX6_setDye_34 : decode cX6_setDye 34 = .ok (.iload_n 3, 1) := by decide +kernel
theorem dX6_setDye_35 : decode cX6_setDye 35 = .ok (.iastore, 1) := by decide +kernel
theorem dX6_setDye_36 : decode cX6_setDye 36 = .ok (.iload 5, 2) := by decide +kernel
theorem dX6_setDye_38 : decode cX6_setDye 38 = .ok (.ireturn, 1) := by decide +kernel
set_option maxRecDepth 20000 in
theorem ggX6_supply_X6_checkDye : GoodIn wsX6_supply wsX6_checkDye := goodIn_ca (goodIn_r _ [9, 10, 11, 8, 12, 13, 14] (by decide +kernel) (by decide +kernel)) (goodIn_sub (fun _ h => List.mem_cons_of_mem _ (List.mem_append_right _ h)) (by decide +kernel))
set_option maxRecDepth 20000 in
theorem gX6_supply_X6_checkDye : GoodIn wsX6_supply (va_wsS RX6 70 yX6_checkDye wsX6_checkDye) := goodIn_app (goodIn_of _ (by decide +kernel)) ggX6_supply_X6_checkDye
set_option maxRecDepth 20000 in
theorem ggX6_supply_X6_checkRange : GoodIn wsX6_supply wsX6_checkRange := goodIn_ca (goodIn_r _ [12, 13, 14] (by decide +kernel) (by decide +kernel)) (goodIn_sub (fun _ h => List.mem_cons_of_mem _ (List.mem_append_right _ h)) (by decide +kernel))
set_option maxRecDepth 20000 in
theorem gX6_supply_X6_checkRange : GoodIn wsX6_supply (va_wsS RX6 74 yX6_checkRange wsX6_checkRange) := goodIn_app (goodIn_of _ (by decide +kernel)) ggX6_supply_X6_checkRange
theorem dX6_supply_0 : decode cX6_supply 0 = .ok (.iload_n 1, 1) := by decide +kernel
theorem dX6_supply_1 : decode cX6_supply 1 = .ok (.invokestatic 70, 3) := by decide +kernel
theorem dX6_supply_4 : decode cX6_supply 4 = .ok (.iload_n 2, 1) := by decide +kernel
theorem dX6_supply_5 : decode cX6_supply 5 = .ok (.iconst 1, 1) := by decide +kernel
theorem dX6_supply_6 : decode cX6_supply 6 = .ok (.ldc 80, 2) := by decide +kernel
theorem dX6_supply_8 : decode cX6_supply 8 = .ok (.invokestatic 74, 3) := by decide +kernel
theorem dX6_supply_11 : decode cX6_supply 11 = .ok (.aload_n 0, 1) := by decide +kernel
theorem dX6_supply_12 : decode cX6_supply 12 = .ok (.getfield 33, 3) := by decide +kernel
theorem dX6_supply_15 : decode cX6_supply 15 = .ok (.iload_n 1, 1) := by decide +kernel
theorem dX6_supply_16 : decode cX6_supply 16 = .ok (.iaload, 1) := by decide +kernel
theorem dX6_supply_17 : decode cX6_supply 17 = .ok (.iload_n 2, 1) := by decide +kernel
theorem dX6_supply_18 : decode cX6_supply 18 = .ok (.iadd, 1) := by decide +kernel
theorem dX6_supply_19 : decode cX6_supply 19 = .ok (.ldc 81, 2) := by decide +kernel
theorem dX6_supply_21 : decode cX6_supply 21 = .ok (.if_icmp .le 11, 3) := by decide +kernel
theorem dX6_supply_24 : decode cX6_supply 24 = .ok (.new 56, 3) := by decide +kernel
theorem dX6_supply_27 : decode cX6_supply 27 = .ok (.dup, 1) := by decide +kernel
theorem dX6_supply_28 : decode cX6_supply 28 = .ok (.invokespecial 58, 3) := by decide +kernel
theorem dX6_supply_31 : decode cX6_supply 31 = .ok (.athrow, 1) := by decide +kernel
theorem dX6_supply_32 : decode cX6_supply 32 = .ok (.aload_n 0, 1) := by decide +kernel
theorem dX6_supply_33 : decode cX6_supply 33 = .ok (.getfield 33, 3) := by decide +kernel
theorem dX6_supply_36 : decode cX6_supply 36 = .ok (.iload_n 1, 1) := by decide +kernel
theorem dX6_supply_37 : decode cX6_supply 37 = .ok (.dup2, 1) := by decide +kernel
theorem dX6_supply_38 : decode cX6_supply 38 = .ok (.iaload, 1) := by decide +kernel
theorem dX6_supply_39 : decode cX6_supply 39 = .ok (.iload_n 2, 1) := by decide +kernel
theorem dX6_supply_40 : decode cX6_supply 40 = .ok (.iadd, 1) := by decide +kernel
theorem dX6_supply_41 : decode cX6_supply 41 = .ok (.iastore, 1) := by decide +kernel
theorem dX6_supply_42 : decode cX6_supply 42 = .ok (.aload_n 0, 1) := by decide +kernel
theorem dX6_supply_43 : decode cX6_supply 43 = .ok (.getfield 33, 3) := by decide +kernel
theorem dX6_supply_46 : decode cX6_supply 46 = .ok (.iload_n 1, 1) := by decide +kernel
theorem dX6_supply_47 : decode cX6_supply 47 = .ok (.iaload, 1) := by decide +kernel
theorem dX6_supply_48 : decode cX6_supply 48 = .ok (.ireturn, 1) := by decide +kernel
set_option maxRecDepth 20000 in
theorem ggX6_stock_X6_checkDye : GoodIn wsX6_stock wsX6_checkDye := goodIn_ca (goodIn_r _ [5, 6, 7, 4, 8, 9, 10] (by decide +kernel) (by decide +kernel)) (goodIn_sub (fun _ h => List.mem_cons_of_mem _ (List.mem_append_right _ h)) (by decide +kernel))
set_option maxRecDepth 20000 in
theorem gX6_stock_X6_checkDye : GoodIn wsX6_stock (va_wsS RX6 70 yX6_checkDye wsX6_checkDye) := goodIn_app (goodIn_of _ (by decide +kernel)) ggX6_stock_X6_checkDye
theorem dX6_stock_0 : decode cX6_stock 0 = .ok (.iload_n 1, 1) := by decide +kernel
theorem dX6_stock_1 : decode cX6_stock 1 = .ok (.invokestatic 70, 3) := by decide +kernel
theorem dX6_stock_4 : decode cX6_stock 4 = .ok (.aload_n 0, 1) := by decide +kernel
theorem dX6_stock_5 : decode cX6_stock 5 = .ok (.getfield 33, 3) := by decide +kernel
theorem dX6_stock_8 : decode cX6_stock 8 = .ok (.iload_n 1, 1) := by decide +kernel
theorem dX6_stock_9 : decode cX6_stock 9 = .ok (.iaload, 1) := by decide +kernel
theorem dX6_stock_10 : decode cX6_stock 10 = .ok (.ireturn, 1) := by decide +kernel
set_option maxRecDepth 20000 in
theorem ggX6_addOrder_X6_recipeNumbered : GoodIn wsX6_addOrder wsX6_recipeNumbered := goodIn_ca (goodIn_r _ [12, 13, 14, 15, 35, 36, 37, 38, 39, 40, 41, 42, 43, 44, 45] (by decide +kernel) (by decide +kernel)) (goodIn_sub (fun _ h => List.mem_cons_of_mem _ (List.mem_append_left _ (List.mem_append_right _ h))) (by decide +kernel))
set_option maxRecDepth 20000 in
theorem gX6_addOrder_X6_recipeNumbered : GoodIn wsX6_addOrder (wsV RX6 66 RX6 yX6_recipeNumbered wsX6_recipeNumbered) := goodIn_app (goodIn_of _ (by decide +kernel)) ggX6_addOrder_X6_recipeNumbered
set_option maxRecDepth 20000 in
theorem ggX6_addOrder_X6_checkCustomer : GoodIn wsX6_addOrder wsX6_checkCustomer := goodIn_ca (goodIn_r _ [18, 19, 20, 11, 21, 22, 23] (by decide +kernel) (by decide +kernel)) (goodIn_sub (fun _ h => List.mem_cons_of_mem _ (List.mem_append_right _ h)) (by decide +kernel))
set_option maxRecDepth 20000 in
theorem gX6_addOrder_X6_checkCustomer : GoodIn wsX6_addOrder (va_wsS RX6 82 yX6_checkCustomer wsX6_checkCustomer) := goodIn_app (goodIn_of _ (by decide +kernel)) ggX6_addOrder_X6_checkCustomer
set_option maxRecDepth 20000 in
theorem ggX6_addOrder_X6_checkRange : GoodIn wsX6_addOrder wsX6_checkRange := goodIn_ca (goodIn_r _ [21, 22, 23] (by decide +kernel) (by decide +kernel)) (goodIn_sub (fun _ h => List.mem_cons_of_mem _ (List.mem_append_right _ h)) (by decide +kernel))
set_option maxRecDepth 20000 in
theorem gX6_addOrder_X6_checkRange : GoodIn wsX6_addOrder (va_wsS RX6 74 yX6_checkRange wsX6_checkRange) := goodIn_app (goodIn_of _ (by decide +kernel)) ggX6_addOrder_X6_checkRange
set_option maxRecDepth 20000 in
theorem ggX6_addOrder_X1_init : GoodIn wsX6_addOrder wsX1_init := goodIn_r _ [26, 27, 28, 29, 30, 31, 32, 33, 34, 46, 47, 48, 49, 50] (by decide +kernel) (by decide +kernel)
set_option maxRecDepth 20000 in
theorem gX6_addOrder_X1_init : GoodIn wsX6_addOrder (wsX1_init) := ggX6_addOrder_X1_init
theorem dX6_addOrder_0 : decode cX6_addOrder 0 = .ok (.aload_n 0, 1) := by decide +kernel
theorem dX6_addOrder_1 : decode cX6_addOrder 1 = .ok (.iload_n 2, 1) := by decide +kernel
theorem dX6_addOrder_2 : decode cX6_addOrder 2 = .ok (.invokevirtual 66, 3) := by decide +kernel
theorem dX6_addOrder_5 : decode cX6_addOrder 5 = .ok (.astore 6, 2) := by decide +kernel
theorem dX6_addOrder_7 : decode cX6_addOrder 7 = .ok (.iload_n 1, 1) := by decide +kernel
theorem dX6_addOrder_8 : decode cX6_addOrder 8 = .ok (.invokestatic 82, 3) := by decide +kernel
theorem dX6_addOrder_11 : decode cX6_addOrder 11 = .ok (.iload_n 3, 1) := by decide +kernel
theorem dX6_addOrder_12 : decode cX6_addOrder 12 = .ok (.iconst 0, 1) := by decide +kernel
theorem dX6_addOrder_13 : decode cX6_addOrder 13 = .ok (.bipush 30, 2) := by decide +kernel
theorem dX6_addOrder_15 : decode cX6_addOrder 15 = .ok (.invokestatic 74, 3) := by decide +kernel
theorem dX6_addOrder_18 : decode cX6_addOrder 18 = .ok (.iload 4, 2) := by decide +kernel
theorem dX6_addOrder_20 : decode cX6_addOrder 20 = .ok (.iconst 0, 1) := by decide +kernel
theorem dX6_addOrder_21 : decode cX6_addOrder 21 = .ok (.bipush 99, 2) := by decide +kernel
theorem dX6_addOrder_23 : decode cX6_addOrder 23 = .ok (.invokestatic 74, 3) := by decide +kernel
theorem dX6_addOrder_26 : decode cX6_addOrder 26 = .ok (.iload 5, 2) := by decide +kernel
theorem dX6_addOrder_28 : decode cX6_addOrder 28 = .ok (.iconst 0, 1) := by decide +kernel
theorem dX6_addOrder_29 : decode cX6_addOrder 29 = .ok (.bipush 99, 2) := by decide +kernel
theorem dX6_addOrder_31 : decode cX6_addOrder 31 = .ok (.invokestatic 74, 3) := by decide +kernel
theorem dX6_addOrder_34 : decode cX6_addOrder 34 = .ok (.aload_n 0, 1) := by decide +kernel
theorem dX6_addOrder_35 : decode cX6_addOrder 35 = .ok (.getfield 85, 3) := by decide +kernel
theorem dX6_addOrder_38 : decode cX6_addOrder 38 = .ok (.ifCond .lt 15, 3) := by decide +kernel
theorem dX6_addOrder_41 : decode cX6_addOrder 41 = .ok (.aload_n 0, 1) := by decide +kernel
theorem dX6_addOrder_42 : decode cX6_addOrder 42 = .ok (.getfield 85, 3) := by decide +kernel
theorem dX6_addOrder_45 : decode cX6_addOrder 45 = .ok (.aload_n 0, 1) := by decide +kernel
theorem dX6_addOrder_46 : decode cX6_addOrder 46 = .ok (.getfield 17, 3) := by decide +kernel
theorem dX6_addOrder_49 : decode cX6_addOrder 49 = .ok (.arraylength, 1) := by decide +kernel
theorem dX6_addOrder_50 : decode cX6_addOrder 50 = .ok (.if_icmp .lt 11, 3) := by decide +kernel
theorem dX6_addOrder_53 : decode cX6_addOrder 53 = .ok (.new 56, 3) := by decide +kernel
theorem dX6_addOrder_56 : decode cX6_addOrder 56 = .ok (.dup, 1) := by decide +kernel
theorem dX6_addOrder_57 : decode cX6_addOrder 57 = .ok (.invokespecial 58, 3) := by decide +kernel
theorem dX6_addOrder_60 : decode cX6_addOrder 60 = .ok (.athrow, 1) := by decide +kernel
theorem dX6_addOrder_61 : decode cX6_addOrder 61 = .ok (.aload_n 0, 1) := by decide +kernel
theorem dX6_addOrder_62 : decode cX6_addOrder 62 = .ok (.getfield 17, 3) := by decide +kernel
theorem dX6_addOrder_65 : decode cX6_addOrder 65 = .ok (.aload_n 0, 1) := by decide +kernel
theorem dX6_addOrder_66 : decode cX6_addOrder 66 = .ok (.getfield 85, 3) := by decide +kernel
theorem dX6_addOrder_69 : decode cX6_addOrder 69 = .ok (.new 15, 3) := by decide +kernel
theorem dX6_addOrder_72 : decode cX6_addOrder 72 = .ok (.dup, 1) := by decide +kernel
theorem dX6_addOrder_73 : decode cX6_addOrder 73 = .ok (.iload_n 1, 1) := by decide +kernel
theorem dX6_addOrder_74 : decode cX6_addOrder 74 = .ok (.aload 6, 2) := by decide +kernel
theorem dX6_addOrder_76 : decode cX6_addOrder 76 = .ok (.iload_n 3, 1) := by decide +kernel
theorem dX6_addOrder_77 : decode cX6_addOrder 77 = .ok (.iload 4, 2) := by decide +kernel
theorem dX6_addOrder_79 : decode cX6_addOrder 79 = .ok (.iload 5, 2) := by decide +kernel
theorem dX6_addOrder_81 : decode cX6_addOrder 81 = .ok (.invokespecial 88, 3) := by decide +kernel
theorem dX6_addOrder_84 : decode cX6_addOrder 84 = .ok (.aastore, 1) := by decide +kernel
theorem dX6_addOrder_85 : decode cX6_addOrder 85 = .ok (.aload_n 0, 1) := by decide +kernel
theorem dX6_addOrder_86 : decode cX6_addOrder 86 = .ok (.dup, 1) := by decide +kernel
theorem dX6_addOrder_87 : decode cX6_addOrder 87 = .ok (.getfield 85, 3) := by decide +kernel
theorem dX6_addOrder_90 : decode cX6_addOrder 90 = .ok (.dup_x1, 1) := by decide +kernel
theorem dX6_addOrder_91 : decode cX6_addOrder 91 = .ok (.iconst 1, 1) := by decide +kernel
theorem dX6_addOrder_92 : decode cX6_addOrder 92 = .ok (.iadd, 1) := by decide +kernel
theorem dX6_addOrder_93 : decode cX6_addOrder 93 = .ok (.putfield 85, 3) := by decide +kernel
theorem dX6_addOrder_96 : decode cX6_addOrder 96 = .ok (.ireturn, 1) := by decide +kernel
set_option maxRecDepth 20000 in
theorem ggX6_addLot_X6_orderNumbered : GoodIn wsX6_addLot wsX6_orderNumbered := goodIn_ca (goodIn_r _ [12, 13, 14, 15, 42, 43, 44, 45, 46, 47, 48, 49, 50, 51, 52] (by decide +kernel) (by decide +kernel)) (goodIn_sub (fun _ h => List.mem_cons_of_mem _ (List.mem_append_left _ (List.mem_append_right _ h))) (by decide +kernel))
set_option maxRecDepth 20000 in
theorem gX6_addLot_X6_orderNumbered : GoodIn wsX6_addLot (wsV RX6 91 RX6 yX6_orderNumbered wsX6_orderNumbered) := goodIn_app (goodIn_of _ (by decide +kernel)) ggX6_addLot_X6_orderNumbered
set_option maxRecDepth 20000 in
theorem ggX6_addLot_X6_checkRange : GoodIn wsX6_addLot wsX6_checkRange := goodIn_ca (goodIn_r _ [18, 19, 20] (by decide +kernel) (by decide +kernel)) (goodIn_sub (fun _ h => List.mem_cons_of_mem _ (List.mem_append_right _ h)) (by decide +kernel))
set_option maxRecDepth 20000 in
theorem gX6_addLot_X6_checkRange : GoodIn wsX6_addLot (va_wsS RX6 74 yX6_checkRange wsX6_checkRange) := goodIn_app (goodIn_of _ (by decide +kernel)) ggX6_addLot_X6_checkRange
set_option maxRecDepth 20000 in
theorem ggX6_addLot_X0_init : GoodIn wsX6_addLot wsX0_init := goodIn_r _ [23, 24, 25, 26, 27, 28, 29, 30, 31, 32, 33, 34, 35, 36, 37, 38, 39, 40, 41, 53, 54, 55, 56, 57, 58, 59, 60, 61, 62, 63, 64] (by decide +kernel) (by decide +kernel)
set_option maxRecDepth 20000 in
theorem gX6_addLot_X0_init : GoodIn wsX6_addLot (wsX0_init) := ggX6_addLot_X0_init
theorem dX6_addLot_0 : decode cX6_addLot 0 = .ok (.aload_n 0, 1) := by decide +kernel
theorem dX6_addLot_1 : decode cX6_addLot 1 = .ok (.iload_n 1, 1) := by decide +kernel
theorem dX6_addLot_2 : decode cX6_addLot 2 = .ok (.invokevirtual 91, 3) := by decide +kernel
theorem dX6_addLot_5 : decode cX6_addLot 5 = .ok (.astore_n 3, 1) := by decide +kernel
theorem dX6_addLot_6 : decode cX6_addLot 6 = .ok (.iload_n 2, 1) := by decide +kernel
theorem dX6_addLot_7 : decode cX6_addLot 7 = .ok (.iconst 1, 1) := by decide +kernel
theorem dX6_addLot_8 : decode cX6_addLot 8 = .ok (.sipush 200, 3) := by decide +kernel
theorem dX6_addLot_11 : decode cX6_addLot 11 = .ok (.invokestatic 74, 3) := by decide +kernel
theorem dX6_addLot_14 : decode cX6_addLot 14 = .ok (.aload_n 0, 1) := by decide +kernel
theorem dX6_addLot_15 : decode cX6_addLot 15 = .ok (.getfield 95, 3) := by decide +kernel
theorem dX6_addLot_18 : decode cX6_addLot 18 = .ok (.ifCond .lt 15, 3) := by decide +kernel
theorem dX6_addLot_21 : decode cX6_addLot 21 = .ok (.aload_n 0, 1) := by decide +kernel
theorem dX6_addLot_22 : decode cX6_addLot 22 = .ok (.getfield 95, 3) := by decide +kernel
theorem dX6_addLot_25 : decode cX6_addLot 25 = .ok (.aload_n 0, 1) := by decide +kernel
theorem dX6_addLot_26 : decode cX6_addLot 26 = .ok (.getfield 23, 3) := by decide +kernel
theorem dX6_addLot_29 : decode cX6_addLot 29 = .ok (.arraylength, 1) := by decide +kernel
theorem dX6_addLot_30 : decode cX6_addLot 30 = .ok (.if_icmp .lt 11, 3) := by decide +kernel
theorem dX6_addLot_33 : decode cX6_addLot 33 = .ok (.new 56, 3) := by decide +kernel
theorem dX6_addLot_36 : decode cX6_addLot 36 = .ok (.dup, 1) := by decide +kernel
theorem dX6_addLot_37 : decode cX6_addLot 37 = .ok (.invokespecial 58, 3) := by decide +kernel
theorem dX6_addLot_40 : decode cX6_addLot 40 = .ok (.athrow, 1) := by decide +kernel
theorem dX6_addLot_41 : decode cX6_addLot 41 = .ok (.aload_n 0, 1) := by decide +kernel
theorem dX6_addLot_42 : decode cX6_addLot 42 = .ok (.getfield 23, 3) := by decide +kernel
theorem dX6_addLot_45 : decode cX6_addLot 45 = .ok (.aload_n 0, 1) := by decide +kernel
theorem dX6_addLot_46 : decode cX6_addLot 46 = .ok (.getfield 95, 3) := by decide +kernel
theorem dX6_addLot_49 : decode cX6_addLot 49 = .ok (.new 21, 3) := by decide +kernel
theorem dX6_addLot_52 : decode cX6_addLot 52 = .ok (.dup, 1) := by decide +kernel
theorem dX6_addLot_53 : decode cX6_addLot 53 = .ok (.aload_n 0, 1) := by decide +kernel
theorem dX6_addLot_54 : decode cX6_addLot 54 = .ok (.getfield 95, 3) := by decide +kernel
theorem dX6_addLot_57 : decode cX6_addLot 57 = .ok (.aload_n 3, 1) := by decide +kernel
theorem dX6_addLot_58 : decode cX6_addLot 58 = .ok (.iload_n 2, 1) := by decide +kernel
theorem dX6_addLot_59 : decode cX6_addLot 59 = .ok (.invokespecial 98, 3) := by decide +kernel
theorem dX6_addLot_62 : decode cX6_addLot 62 = .ok (.aastore, 1) := by decide +kernel
theorem dX6_addLot_63 : decode cX6_addLot 63 = .ok (.aload_n 0, 1) := by decide +kernel
theorem dX6_addLot_64 : decode cX6_addLot 64 = .ok (.dup, 1) := by decide +kernel
theorem dX6_addLot_65 : decode cX6_addLot 65 = .ok (.getfield 95, 3) := by decide +kernel
theorem dX6_addLot_68 : decode cX6_addLot 68 = .ok (.dup_x1, 1) := by decide +kernel
theorem dX6_addLot_69 : decode cX6_addLot 69 = .ok (.iconst 1, 1) := by decide +kernel
theorem dX6_addLot_70 : decode cX6_addLot 70 = .ok (.iadd, 1) := by decide +kernel
theorem dX6_addLot_71 : decode cX6_addLot 71 = .ok (.putfield 95, 3) := by decide +kernel
theorem dX6_addLot_74 : decode cX6_addLot 74 = .ok (.ireturn, 1) := by decide +kernel
set_option maxRecDepth 20000 in
theorem ggX6_addVat_X6_checkRange : GoodIn wsX6_addVat wsX6_checkRange := goodIn_ca (goodIn_r _ [11, 12, 13] (by decide +kernel) (by decide +kernel)) (goodIn_sub (fun _ h => List.mem_cons_of_mem _ (List.mem_append_right _ h)) (by decide +kernel))
set_option maxRecDepth 20000 in
theorem gX6_addVat_X6_checkRange : GoodIn wsX6_addVat (va_wsS RX6 74 yX6_checkRange wsX6_checkRange) := goodIn_app (goodIn_of _ (by decide +kernel)) ggX6_addVat_X6_checkRange
set_option maxRecDepth 20000 in
theorem ggX6_addVat_X5_init : GoodIn wsX6_addVat wsX5_init := goodIn_r _ [16, 17, 18, 19, 20, 21, 22, 23, 35, 36, 37, 38, 39, 40] (by decide +kernel) (by decide +kernel)
set_option maxRecDepth 20000 in
theorem gX6_addVat_X5_init : GoodIn wsX6_addVat (wsX5_init) := ggX6_addVat_X5_init
theorem dX6_addVat_0 : decode cX6_addVat 0 = .ok (.iload_n 1, 1) := by decide +kernel
theorem dX6_addVat_1 : decode cX6_addVat 1 = .ok (.bipush 10, 2) := by decide +kernel
theorem dX6_addVat_3 : decode cX6_addVat 3 = .ok (.sipush 300, 3) := by decide +kernel
theorem dX6_addVat_6 : decode cX6_addVat 6 = .ok (.invokestatic 74, 3) := by decide +kernel
theorem dX6_addVat_9 : decode cX6_addVat 9 = .ok (.aload_n 0, 1) := by decide +kernel
theorem dX6_addVat_10 : decode cX6_addVat 10 = .ok (.getfield 101, 3) := by decide +kernel
theorem dX6_addVat_13 : decode cX6_addVat 13 = .ok (.ifCond .lt 15, 3) := by decide +kernel
theorem dX6_addVat_16 : decode cX6_addVat 16 = .ok (.aload_n 0, 1) := by decide +kernel
theorem dX6_addVat_17 : decode cX6_addVat 17 = .ok (.getfield 101, 3) := by decide +kernel
theorem dX6_addVat_20 : decode cX6_addVat 20 = .ok (.aload_n 0, 1) := by decide +kernel
theorem dX6_addVat_21 : decode cX6_addVat 21 = .ok (.getfield 29, 3) := by decide +kernel
theorem dX6_addVat_24 : decode cX6_addVat 24 = .ok (.arraylength, 1) := by decide +kernel
theorem dX6_addVat_25 : decode cX6_addVat 25 = .ok (.if_icmp .lt 11, 3) := by decide +kernel
theorem dX6_addVat_28 : decode cX6_addVat 28 = .ok (.new 56, 3) := by decide +kernel
theorem dX6_addVat_31 : decode cX6_addVat 31 = .ok (.dup, 1) := by decide +kernel
theorem dX6_addVat_32 : decode cX6_addVat 32 = .ok (.invokespecial 58, 3) := by decide +kernel
theorem dX6_addVat_35 : decode cX6_addVat 35 = .ok (.athrow, 1) := by decide +kernel
theorem dX6_addVat_36 : decode cX6_addVat 36 = .ok (.aload_n 0, 1) := by decide +kernel
theorem dX6_addVat_37 : decode cX6_addVat 37 = .ok (.getfield 29, 3) := by decide +kernel
theorem dX6_addVat_40 : decode cX6_addVat 40 = .ok (.aload_n 0, 1) := by decide +kernel
theorem dX6_addVat_41 : decode cX6_addVat 41 = .ok (.getfield 101, 3) := by decide +kernel
theorem dX6_addVat_44 : decode cX6_addVat 44 = .ok (.new 27, 3) := by decide +kernel
theorem dX6_addVat_47 : decode cX6_addVat 47 = .ok (.dup, 1) := by decide +kernel
theorem dX6_addVat_48 : decode cX6_addVat 48 = .ok (.aload_n 0, 1) := by decide +kernel
theorem dX6_addVat_49 : decode cX6_addVat 49 = .ok (.getfield 101, 3) := by decide +kernel
theorem dX6_addVat_52 : decode cX6_addVat 52 = .ok (.iload_n 1, 1) := by decide +kernel
theorem dX6_addVat_53 : decode cX6_addVat 53 = .ok (.invokespecial 104, 3) := by decide +kernel
theorem dX6_addVat_56 : decode cX6_addVat 56 = .ok (.aastore, 1) := by decide +kernel
theorem dX6_addVat_57 : decode cX6_addVat 57 = .ok (.aload_n 0, 1) := by decide +kernel
theorem dX6_addVat_58 : decode cX6_addVat 58 = .ok (.dup, 1) := by decide +kernel
theorem dX6_addVat_59 : decode cX6_addVat 59 = .ok (.getfield 101, 3) := by decide +kernel
theorem dX6_addVat_62 : decode cX6_addVat 62 = .ok (.dup_x1, 1) := by decide +kernel
theorem dX6_addVat_63 : decode cX6_addVat 63 = .ok (.iconst 1, 1) := by decide +kernel
theorem dX6_addVat_64 : decode cX6_addVat 64 = .ok (.iadd, 1) := by decide +kernel
theorem dX6_addVat_65 : decode cX6_addVat 65 = .ok (.putfield 101, 3) := by decide +kernel
theorem dX6_addVat_68 : decode cX6_addVat 68 = .ok (.ireturn, 1) := by decide +kernel
set_option maxRecDepth 20000 in
theorem ggX6_needs_X6_lotNumbered : GoodIn wsX6_needs wsX6_lotNumbered := goodIn_ca (goodIn_r _ [5, 6, 7, 8, 26, 27, 28, 29, 30, 31, 32, 33, 34, 35, 36] (by decide +kernel) (by decide +kernel)) (goodIn_sub (fun _ h => List.mem_cons_of_mem _ (List.mem_append_left _ (List.mem_append_left _ (List.mem_append_right _ h)))) (by decide +kernel))
set_option maxRecDepth 20000 in
theorem gX6_needs_X6_lotNumbered : GoodIn wsX6_needs (wsV RX6 107 RX6 yX6_lotNumbered wsX6_lotNumbered) := goodIn_app (goodIn_of _ (by decide +kernel)) ggX6_needs_X6_lotNumbered
set_option maxRecDepth 20000 in
theorem ggX6_needs_X6_checkDye : GoodIn wsX6_needs wsX6_checkDye := goodIn_ca (goodIn_r _ [11, 12, 13, 4, 14, 15, 16] (by decide +kernel) (by decide +kernel)) (goodIn_sub (fun _ h => List.mem_cons_of_mem _ (List.mem_append_left _ (List.mem_append_right _ h))) (by decide +kernel))
set_option maxRecDepth 20000 in
theorem gX6_needs_X6_checkDye : GoodIn wsX6_needs (va_wsS RX6 70 yX6_checkDye wsX6_checkDye) := goodIn_app (goodIn_of _ (by decide +kernel)) ggX6_needs_X6_checkDye
set_option maxRecDepth 20000 in
theorem ggX6_needs_X0_gramsNeeded : GoodIn wsX6_needs wsX0_gramsNeeded := goodIn_ca (goodIn_r _ [21, 22, 23, 24, 25, 37, 38, 39, 40, 41, 42, 43, 44, 45, 46, 47, 48, 49, 50, 51, 52] (by decide +kernel) (by decide +kernel)) (goodIn_sub (fun _ h => List.mem_cons_of_mem _ (List.mem_append_right _ h)) (by decide +kernel))
set_option maxRecDepth 20000 in
theorem gX6_needs_X0_gramsNeeded : GoodIn wsX6_needs (wsV RX6 111 RX0 yX0_gramsNeeded wsX0_gramsNeeded) := goodIn_app (goodIn_of _ (by decide +kernel)) ggX6_needs_X0_gramsNeeded
theorem dX6_needs_0 : decode cX6_needs 0 = .ok (.aload_n 0, 1) := by decide +kernel
theorem dX6_needs_1 : decode cX6_needs 1 = .ok (.iload_n 1, 1) := by decide +kernel
theorem dX6_needs_2 : decode cX6_needs 2 = .ok (.invokevirtual 107, 3) := by decide +kernel
theorem dX6_needs_5 : decode cX6_needs 5 = .ok (.astore_n 3, 1) := by decide +kernel
theorem dX6_needs_6 : decode cX6_needs 6 = .ok (.iload_n 2, 1) := by decide +kernel
theorem dX6_needs_7 : decode cX6_needs 7 = .ok (.invokestatic 70, 3) := by decide +kernel
theorem dX6_needs_10 : decode cX6_needs 10 = .ok (.aload_n 3, 1) := by decide +kernel
theorem dX6_needs_11 : decode cX6_needs 11 = .ok (.iload_n 2, 1) := by decide +kernel
theorem dX6_needs_12 : decode cX6_needs 12 = .ok (.invokevirtual 111, 3) := by decide +kernel
theorem dX6_needs_15 : decode cX6_needs 15 = .ok (.ireturn, 1) := by decide +kernel
set_option maxRecDepth 20000 in
theorem ggX6_hoursFor_X6_lotNumbered : GoodIn wsX6_hoursFor wsX6_lotNumbered := goodIn_ca (goodIn_r _ [5, 6, 7, 8, 15, 16, 17, 18, 19, 20, 21, 22, 23, 24, 25] (by decide +kernel) (by decide +kernel)) (goodIn_sub (fun _ h => List.mem_cons_of_mem _ (List.mem_append_right _ h)) (by decide +kernel))
set_option maxRecDepth 20000 in
theorem gX6_hoursFor_X6_lotNumbered : GoodIn wsX6_hoursFor (wsV RX6 107 RX6 yX6_lotNumbered wsX6_lotNumbered) := goodIn_app (goodIn_of _ (by decide +kernel)) ggX6_hoursFor_X6_lotNumbered
set_option maxRecDepth 20000 in
theorem ggX6_hoursFor_X0_dyeingHours : GoodIn wsX6_hoursFor wsX0_dyeingHours := goodIn_r _ [13, 14, 26, 27, 28, 29, 30, 31, 32, 33, 34] (by decide +kernel) (by decide +kernel)
set_option maxRecDepth 20000 in
theorem gX6_hoursFor_X0_dyeingHours : GoodIn wsX6_hoursFor (wsV RX6 115 RX0 yX0_dyeingHours wsX0_dyeingHours) := goodIn_app (goodIn_of _ (by decide +kernel)) ggX6_hoursFor_X0_dyeingHours
theorem dX6_hoursFor_0 : decode cX6_hoursFor 0 = .ok (.aload_n 0, 1) := by decide +kernel
theorem dX6_hoursFor_1 : decode cX6_hoursFor 1 = .ok (.iload_n 1, 1) := by decide +kernel
theorem dX6_hoursFor_2 : decode cX6_hoursFor 2 = .ok (.invokevirtual 107, 3) := by decide +kernel
theorem dX6_hoursFor_5 : decode cX6_hoursFor 5 = .ok (.invokevirtual 115, 3) := by decide +kernel
theorem dX6_hoursFor_8 : decode cX6_hoursFor 8 = .ok (.ireturn, 1) := by decide +kernel
set_option maxRecDepth 20000 in
theorem ggX6_reason_X6_lotNumbered : GoodIn wsX6_reason wsX6_lotNumbered := goodIn_ca (goodIn_r _ [5, 6, 7, 8, 48, 49, 50, 51, 52, 53, 54, 55, 56, 57, 58] (by decide +kernel) (by decide +kernel)) (goodIn_sub (fun _ h => List.mem_cons_of_mem _ (List.mem_append_left _ (List.mem_append_right _ h))) (by decide +kernel))
set_option maxRecDepth 20000 in
theorem gX6_reason_X6_lotNumbered : GoodIn wsX6_reason (wsV RX6 107 RX6 yX6_lotNumbered wsX6_lotNumbered) := goodIn_app (goodIn_of _ (by decide +kernel)) ggX6_reason_X6_lotNumbered
set_option maxRecDepth 20000 in
theorem ggX6_reason_X6_vatNumbered : GoodIn wsX6_reason wsX6_vatNumbered := goodIn_ca (goodIn_r _ [12, 6, 7, 13, 48, 49, 50, 51, 52, 53, 54, 55, 56, 57, 58] (by decide +kernel) (by decide +kernel)) (goodIn_sub (fun _ h => List.mem_cons_of_mem _ (List.mem_append_left _ (List.mem_append_right _ h))) (by decide +kernel))
set_option maxRecDepth 20000 in
theorem gX6_reason_X6_vatNumbered : GoodIn wsX6_reason (wsV RX6 119 RX6 yX6_vatNumbered wsX6_vatNumbered) := goodIn_app (goodIn_of _ (by decide +kernel)) ggX6_reason_X6_vatNumbered
set_option maxRecDepth 20000 in
theorem ggX6_reason_X6_reasonAgainst : GoodIn wsX6_reason wsX6_reasonAgainst := goodIn_ca (goodIn_r _ [17, 18, 19, 20, 21, 22, 23, 24, 25, 26, 27, 28, 29, 4, 30, 31, 32, 33, 34, 35, 36, 37, 38, 39, 40, 41, 42, 43, 44, 45, 46, 47, 59, 60, 61, 62, 63, 64, 65, 66, 67, 68, 69, 70, 71, 72, 73, 74, 75, 76, 77, 78, 79, 80, 81, 82, 83, 48, 49, 50, 51, 52, 53, 54, 55, 56, 57, 58] (by decide +kernel) (by decide +kernel)) (goodIn_sub (fun _ h => List.mem_cons_of_mem _ (List.mem_append_right _ h)) (by decide +kernel))
set_option maxRecDepth 20000 in
theorem gX6_reason_X6_reasonAgainst : GoodIn wsX6_reason (wsV RX6 123 RX6 yX6_reasonAgainst wsX6_reasonAgainst) := goodIn_app (goodIn_of _ (by decide +kernel)) ggX6_reason_X6_reasonAgainst
theorem dX6_reason_0 : decode cX6_reason 0 = .ok (.aload_n 0, 1) := by decide +kernel
theorem dX6_reason_1 : decode cX6_reason 1 = .ok (.iload_n 1, 1) := by decide +kernel
theorem dX6_reason_2 : decode cX6_reason 2 = .ok (.invokevirtual 107, 3) := by decide +kernel
theorem dX6_reason_5 : decode cX6_reason 5 = .ok (.astore_n 3, 1) := by decide +kernel
theorem dX6_reason_6 : decode cX6_reason 6 = .ok (.aload_n 0, 1) := by decide +kernel
theorem dX6_reason_7 : decode cX6_reason 7 = .ok (.aload_n 3, 1) := by decide +kernel
theorem dX6_reason_8 : decode cX6_reason 8 = .ok (.aload_n 0, 1) := by decide +kernel
theorem dX6_reason_9 : decode cX6_reason 9 = .ok (.iload_n 2, 1) := by decide +kernel
theorem dX6_reason_10 : decode cX6_reason 10 = .ok (.invokevirtual 119, 3) := by decide +kernel
theorem dX6_reason_13 : decode cX6_reason 13 = .ok (.invokevirtual 123, 3) := by decide +kernel
theorem dX6_reason_16 : decode cX6_reason 16 = .ok (.ireturn, 1) := by decide +kernel
set_option maxRecDepth 20000 in
theorem ggX6_dye_X6_lotNumbered : GoodIn wsX6_dye wsX6_lotNumbered := goodIn_ca (goodIn_r _ [16, 17, 18, 19, 97, 98, 99, 100, 101, 102, 103, 104, 105, 106, 107] (by decide +kernel) (by decide +kernel)) (goodIn_sub (fun _ h => List.mem_cons_of_mem _ (List.mem_append_left _ (List.mem_append_left _ (List.mem_append_right _ h)))) (by decide +kernel))
set_option maxRecDepth 20000 in
theorem gX6_dye_X6_lotNumbered : GoodIn wsX6_dye (wsV RX6 107 RX6 yX6_lotNumbered wsX6_lotNumbered) := goodIn_app (goodIn_of _ (by decide +kernel)) ggX6_dye_X6_lotNumbered
set_option maxRecDepth 20000 in
theorem ggX6_dye_X6_vatNumbered : GoodIn wsX6_dye wsX6_vatNumbered := goodIn_ca (goodIn_r _ [23, 17, 18, 24, 97, 98, 99, 100, 101, 102, 103, 104, 105, 106, 107] (by decide +kernel) (by decide +kernel)) (goodIn_sub (fun _ h => List.mem_cons_of_mem _ (List.mem_append_left _ (List.mem_append_left _ (List.mem_append_right _ h)))) (by decide +kernel))
set_option maxRecDepth 20000 in
theorem gX6_dye_X6_vatNumbered : GoodIn wsX6_dye (wsV RX6 119 RX6 yX6_vatNumbered wsX6_vatNumbered) := goodIn_app (goodIn_of _ (by decide +kernel)) ggX6_dye_X6_vatNumbered
set_option maxRecDepth 20000 in
theorem ggX6_dye_X6_checkShade : GoodIn wsX6_dye wsX6_checkShade := goodIn_ca (goodIn_r _ [27, 28, 29, 15, 30, 31, 32] (by decide +kernel) (by decide +kernel)) (goodIn_sub (fun _ h => List.mem_cons_of_mem _ (List.mem_append_left _ (List.mem_append_right _ h))) (by decide +kernel))
set_option maxRecDepth 20000 in
theorem gX6_dye_X6_checkShade : GoodIn wsX6_dye (va_wsS RX6 48 yX6_checkShade wsX6_checkShade) := goodIn_app (goodIn_of _ (by decide +kernel)) ggX6_dye_X6_checkShade
set_option maxRecDepth 20000 in
theorem ggX6_dye_X6_reasonAgainst : GoodIn wsX6_dye wsX6_reasonAgainst := goodIn_ca (goodIn_r _ [36, 6, 37, 38, 3, 39, 40, 41, 42, 43, 44, 45, 46, 15, 47, 48, 49, 50, 51, 52, 53, 54, 55, 56, 57, 58, 59, 60, 61, 62, 63, 64, 88, 89, 90, 91, 92, 93, 94, 95, 96, 82, 83, 84, 85, 86, 87, 108, 109, 110, 111, 112, 113, 114, 115, 116, 117, 97, 98, 99, 100, 101, 102, 103, 104, 105, 106, 107] (by decide +kernel) (by decide +kernel)) (goodIn_sub (fun _ h => List.mem_cons_of_mem _ (List.mem_append_right _ h)) (by decide +kernel))
set_option maxRecDepth 20000 in
theorem gX6_dye_X6_reasonAgainst : GoodIn wsX6_dye (wsV RX6 123 RX6 yX6_reasonAgainst wsX6_reasonAgainst) := goodIn_app (goodIn_of _ (by decide +kernel)) ggX6_dye_X6_reasonAgainst
set_option maxRecDepth 20000 in
theorem ggX6_dye_X6_takeDyesFor : GoodIn wsX6_dye wsX6_takeDyesFor := goodIn_ca (goodIn_r _ [68, 55, 69, 56, 57, 58, 59, 60, 61, 62, 63, 64, 97, 98, 99, 100, 101, 102, 103, 104, 105, 106, 107, 88, 89, 90, 91, 92, 93, 94, 95, 96, 108, 109, 110, 111, 112, 113, 114] (by decide +kernel) (by decide +kernel)) (goodIn_sub (fun _ h => List.mem_cons_of_mem _ (List.mem_append_right _ h)) (by decide +kernel))
set_option maxRecDepth 20000 in
theorem gX6_dye_X6_takeDyesFor : GoodIn wsX6_dye (wsV RX6 130 RX6 yX6_takeDyesFor wsX6_takeDyesFor) := goodIn_app (goodIn_of _ (by decide +kernel)) ggX6_dye_X6_takeDyesFor
set_option maxRecDepth 20000 in
theorem ggX6_dye_X0_dyeingHours : GoodIn wsX6_dye wsX0_dyeingHours := goodIn_r _ [73, 64, 88, 89, 90, 91, 92, 93, 94, 95, 96] (by decide +kernel) (by decide +kernel)
set_option maxRecDepth 20000 in
theorem gX6_dye_X0_dyeingHours : GoodIn wsX6_dye (wsV RX6 115 RX0 yX0_dyeingHours wsX0_dyeingHours) := goodIn_app (goodIn_of _ (by decide +kernel)) ggX6_dye_X0_dyeingHours
set_option maxRecDepth 20000 in
theorem ggX6_dye_X4_set : GoodIn wsX6_dye wsX4_set := goodIn_r _ [78, 79, 80, 81, 115, 116, 117] (by decide +kernel) (by decide +kernel)
set_option maxRecDepth 20000 in
theorem gX6_dye_X4_set : GoodIn wsX6_dye (wsV RX6 144 RX4 yX4_set wsX4_set) := goodIn_app (goodIn_of _ (by decide +kernel)) ggX6_dye_X4_set
theorem dX6_dye_0 : decode cX6_dye 0 = .ok (.aload_n 0, 1) := by decide +kernel
theorem dX6_dye_1 : decode cX6_dye 1 = .ok (.iload_n 1, 1) := by decide +kernel
theorem dX6_dye_2 : decode cX6_dye 2 = .ok (.invokevirtual 107, 3) := by decide +kernel
theorem dX6_dye_5 : decode cX6_dye 5 = .ok (.astore 6, 2) := by decide +kernel
theorem dX6_dye_7 : decode cX6_dye 7 = .ok (.aload_n 0, 1) := by decide +kernel
theorem dX6_dye_8 : decode cX6_dye 8 = .ok (.iload_n 2, 1) := by decide +kernel
theorem dX6_dye_9 : decode cX6_dye 9 = .ok (.invokevirtual 119, 3) := by decide +kernel
theorem dX6_dye_12 : decode cX6_dye 12 = .ok (.astore 7, 2) := by decide +kernel
theorem dX6_dye_14 : decode cX6_dye 14 = .ok (.iload_n 3, 1) := by decide +kernel
theorem dX6_dye_15 : decode cX6_dye 15 = .ok (.iload 4, 2) := by decide +kernel
theorem dX6_dye_17 : decode cX6_dye 17 = .ok (.iload 5, 2) := by decide +kernel
theorem dX6_dye_19 : decode cX6_dye 19 = .ok (.invokestatic 48, 3) := by decide +kernel
theorem dX6_dye_22 : decode cX6_dye 22 = .ok (.aload_n 0, 1) := by decide +kernel
theorem dX6_dye_23 : decode cX6_dye 23 = .ok (.aload 6, 2) := by decide +kernel
theorem dX6_dye_25 : decode cX6_dye 25 = .ok (.aload 7, 2) := by decide +kernel
theorem dX6_dye_27 : decode cX6_dye 27 = .ok (.invokevirtual 123, 3) := by decide +kernel
theorem dX6_dye_30 : decode cX6_dye 30 = .ok (.bipush 45, 2) := by decide +kernel
theorem dX6_dye_32 : decode cX6_dye 32 = .ok (.if_icmp .eq 11, 3) := by decide +kernel
theorem dX6_dye_35 : decode cX6_dye 35 = .ok (.new 127, 3) := by decide +kernel
theorem dX6_dye_38 : decode cX6_dye 38 = .ok (.dup, 1) := by decide +kernel
theorem dX6_dye_39 : decode cX6_dye 39 = .ok (.invokespecial 129, 3) := by decide +kernel
theorem dX6_dye_42 : decode cX6_dye 42 = .ok (.athrow, 1) := by decide +kernel
theorem dX6_dye_43 : decode cX6_dye 43 = .ok (.aload_n 0, 1) := by decide +kernel
theorem dX6_dye_44 : decode cX6_dye 44 = .ok (.aload 6, 2) := by decide +kernel
theorem dX6_dye_46 : decode cX6_dye 46 = .ok (.invokevirtual 130, 3) := by decide +kernel
theorem dX6_dye_49 : decode cX6_dye 49 = .ok (.aload 7, 2) := by decide +kernel
theorem dX6_dye_51 : decode cX6_dye 51 = .ok (.iload_n 3, 1) := by decide +kernel
theorem dX6_dye_52 : decode cX6_dye 52 = .ok (.putfield 134, 3) := by decide +kernel
theorem dX6_dye_55 : decode cX6_dye 55 = .ok (.aload 7, 2) := by decide +kernel
theorem dX6_dye_57 : decode cX6_dye 57 = .ok (.dup, 1) := by decide +kernel
theorem dX6_dye_58 : decode cX6_dye 58 = .ok (.getfield 137, 3) := by decide +kernel
theorem dX6_dye_61 : decode cX6_dye 61 = .ok (.aload 6, 2) := by decide +kernel
theorem dX6_dye_63 : decode cX6_dye 63 = .ok (.invokevirtual 115, 3) := by decide +kernel
theorem dX6_dye_66 : decode cX6_dye 66 = .ok (.iadd, 1) := by decide +kernel
theorem dX6_dye_67 : decode cX6_dye 67 = .ok (.putfield 137, 3) := by decide +kernel
theorem dX6_dye_70 : decode cX6_dye 70 = .ok (.aload 6, 2) := by decide +kernel
theorem dX6_dye_72 : decode cX6_dye 72 = .ok (.getfield 140, 3) := by decide +kernel
theorem dX6_dye_75 : decode cX6_dye 75 = .ok (.iload_n 3, 1) := by decide +kernel
theorem dX6_dye_76 : decode cX6_dye 76 = .ok (.iload 4, 2) := by decide +kernel
theorem dX6_dye_78 : decode cX6_dye 78 = .ok (.iload 5, 2) := by decide +kernel
theorem dX6_dye_80 : decode cX6_dye 80 = .ok (.invokevirtual 144, 3) := by decide +kernel
theorem dX6_dye_83 : decode cX6_dye 83 = .ok (.aload 6, 2) := by decide +kernel
theorem dX6_dye_85 : decode cX6_dye 85 = .ok (.bipush 100, 2) := by decide +kernel
theorem dX6_dye_87 : decode cX6_dye 87 = .ok (.putfield 147, 3) := by decide +kernel
theorem dX6_dye_90 : decode cX6_dye 90 = .ok (.aload 6, 2) := by decide +kernel
theorem dX6_dye_92 : decode cX6_dye 92 = .ok (.aload 7, 2) := by decide +kernel
theorem dX6_dye_94 : decode cX6_dye 94 = .ok (.putfield 151, 3) := by decide +kernel
theorem dX6_dye_97 : decode cX6_dye 97 = .ok (.aload 6, 2) := by decide +kernel
theorem dX6_dye_99 : decode cX6_dye 99 = .ok (.aload 7, 2) := by decide +kernel
theorem dX6_dye_101 : decode cX6_dye 101 = .ok (.getfield 137, 3) := by decide +kernel
theorem dX6_dye_104 : decode cX6_dye 104 = .ok (.putfield 155, 3) := by decide +kernel
theorem dX6_dye_107 : decode cX6_dye 107 = .ok (.aload 6, 2) := by decide +kernel
theorem dX6_dye_109 : decode cX6_dye 109 = .ok (.aload 7, 2) := by decide +kernel
theorem dX6_dye_111 : decode cX6_dye 111 = .ok (.getfield 158, 3) := by decide +kernel
theorem dX6_dye_114 : decode cX6_dye 114 = .ok (.putfield 161, 3) := by decide +kernel
theorem dX6_dye_117 : decode cX6_dye 117 = .ok (.aload 6, 2) := by decide +kernel
theorem dX6_dye_119 : decode cX6_dye 119 = .ok (.aconst_null, 1) := by decide +kernel
theorem dX6_dye_120 : decode cX6_dye 120 = .ok (.putfield 164, 3) := by decide +kernel
theorem dX6_dye_123 : decode cX6_dye 123 = .ok (.aload 7, 2) := by decide +kernel
theorem dX6_dye_125 : decode cX6_dye 125 = .ok (.getfield 137, 3) := by decide +kernel
theorem dX6_dye_128 : decode cX6_dye 128 = .ok (.ireturn, 1) := by decide +kernel
set_option maxRecDepth 20000 in
theorem ggX6_clean_X6_vatNumbered : GoodIn wsX6_clean wsX6_vatNumbered := goodIn_ca (goodIn_r _ [9, 10, 11, 12, 19, 20, 21, 22, 23, 24, 25, 26, 27, 28, 29] (by decide +kernel) (by decide +kernel)) (goodIn_sub (fun _ h => List.mem_cons_of_mem _ (List.mem_append_right _ h)) (by decide +kernel))
set_option maxRecDepth 20000 in
theorem gX6_clean_X6_vatNumbered : GoodIn wsX6_clean (wsV RX6 119 RX6 yX6_vatNumbered wsX6_vatNumbered) := goodIn_app (goodIn_of _ (by decide +kernel)) ggX6_clean_X6_vatNumbered
theorem dX6_clean_0 : decode cX6_clean 0 = .ok (.aload_n 0, 1) := by decide +kernel
theorem dX6_clean_1 : decode cX6_clean 1 = .ok (.iload_n 1, 1) := by decide +kernel
theorem dX6_clean_2 : decode cX6_clean 2 = .ok (.invokevirtual 119, 3) := by decide +kernel
theorem dX6_clean_5 : decode cX6_clean 5 = .ok (.astore_n 2, 1) := by decide +kernel
theorem dX6_clean_6 : decode cX6_clean 6 = .ok (.aload_n 2, 1) := by decide +kernel
theorem dX6_clean_7 : decode cX6_clean 7 = .ok (.iconst (-1), 1) := by decide +kernel
theorem dX6_clean_8 : decode cX6_clean 8 = .ok (.putfield 134, 3) := by decide +kernel
theorem dX6_clean_11 : decode cX6_clean 11 = .ok (.aload_n 2, 1) := by decide +kernel
theorem dX6_clean_12 : decode cX6_clean 12 = .ok (.iconst (-1), 1) := by decide +kernel
theorem dX6_clean_13 : decode cX6_clean 13 = .ok (.putfield 167, 3) := by decide +kernel
theorem dX6_clean_16 : decode cX6_clean 16 = .ok (.aload_n 2, 1) := by decide +kernel
theorem dX6_clean_17 : decode cX6_clean 17 = .ok (.dup, 1) := by decide +kernel
theorem dX6_clean_18 : decode cX6_clean 18 = .ok (.getfield 158, 3) := by decide +kernel
theorem dX6_clean_21 : decode cX6_clean 21 = .ok (.iconst 1, 1) := by decide +kernel
theorem dX6_clean_22 : decode cX6_clean 22 = .ok (.iadd, 1) := by decide +kernel
theorem dX6_clean_23 : decode cX6_clean 23 = .ok (.putfield 158, 3) := by decide +kernel
theorem dX6_clean_26 : decode cX6_clean 26 = .ok (.aload_n 2, 1) := by decide +kernel
theorem dX6_clean_27 : decode cX6_clean 27 = .ok (.dup, 1) := by decide +kernel
theorem dX6_clean_28 : decode cX6_clean 28 = .ok (.getfield 137, 3) := by decide +kernel
theorem dX6_clean_31 : decode cX6_clean 31 = .ok (.iconst 3, 1) := by decide +kernel
theorem dX6_clean_32 : decode cX6_clean 32 = .ok (.iadd, 1) := by decide +kernel
theorem dX6_clean_33 : decode cX6_clean 33 = .ok (.putfield 137, 3) := by decide +kernel
theorem dX6_clean_36 : decode cX6_clean 36 = .ok (.aload_n 2, 1) := by decide +kernel
theorem dX6_clean_37 : decode cX6_clean 37 = .ok (.getfield 137, 3) := by decide +kernel
theorem dX6_clean_40 : decode cX6_clean 40 = .ok (.ireturn, 1) := by decide +kernel
set_option maxRecDepth 20000 in
theorem ggX6_verdict_X6_dyedLotNumbered : GoodIn wsX6_verdict wsX6_dyedLotNumbered := goodIn_ca (goodIn_ca (goodIn_r _ [5, 6, 7, 8, 9, 10, 11, 4, 12, 13, 14, 15, 57, 58, 59, 60, 61, 62, 63, 64, 65, 66, 67, 68, 69, 70, 71, 72, 73, 74, 75, 76] (by decide +kernel) (by decide +kernel)) (goodIn_sub (fun _ h => List.mem_cons_of_mem _ (List.mem_append_left _ (List.mem_append_right _ h))) (by decide +kernel))) (goodIn_sub (fun _ h => List.mem_cons_of_mem _ (List.mem_append_right _ h)) (by decide +kernel))
set_option maxRecDepth 20000 in
theorem gX6_verdict_X6_dyedLotNumbered : GoodIn wsX6_verdict (wsV RX6 170 RX6 yX6_dyedLotNumbered wsX6_dyedLotNumbered) := goodIn_app (goodIn_of _ (by decide +kernel)) ggX6_verdict_X6_dyedLotNumbered
set_option maxRecDepth 20000 in
theorem ggX6_verdict_X6_verdictOn : GoodIn wsX6_verdict wsX6_verdictOn := goodIn_r _ [19, 20, 21, 22, 23, 24, 25, 26, 27, 28, 29, 30, 31, 32, 33, 34, 35, 36, 37, 38, 39, 40, 41, 42, 43, 44, 45, 4, 46, 15, 47, 48, 49, 50, 51, 52, 53, 54, 55, 56, 57, 58, 59, 60, 61, 62, 63, 64, 65, 77, 78, 79, 80, 81, 82, 83, 84, 85, 86, 66, 67, 68, 69, 70, 71, 72, 73, 74, 75, 76] (by decide +kernel) (by decide +kernel)
set_option maxRecDepth 20000 in
theorem gX6_verdict_X6_verdictOn : GoodIn wsX6_verdict (wsV RX6 173 RX6 yX6_verdictOn wsX6_verdictOn) := goodIn_app (goodIn_of _ (by decide +kernel)) ggX6_verdict_X6_verdictOn
theorem dX6_verdict_0 : decode cX6_verdict 0 = .ok (.aload_n 0, 1) := by decide +kernel
theorem dX6_verdict_1 : decode cX6_verdict 1 = .ok (.aload_n 0, 1) := by decide +kernel
theorem dX6_verdict_2 : decode cX6_verdict 2 = .ok (.iload_n 1, 1) := by decide +kernel
theorem dX6_verdict_3 : decode cX6_verdict 3 = .ok (.invokevirtual 170, 3) := by decide +kernel
theorem dX6_verdict_6 : decode cX6_verdict 6 = .ok (.invokevirtual 173, 3) := by decide +kernel
theorem dX6_verdict_9 : decode cX6_verdict 9 = .ok (.ireturn, 1) := by decide +kernel
set_option maxRecDepth 20000 in
theorem ggX6_judge_X6_dyedLotNumbered : GoodIn wsX6_judge wsX6_dyedLotNumbered := goodIn_ca (goodIn_ca (goodIn_r _ [6, 7, 8, 1, 9, 10, 11, 5, 12, 13, 14, 15, 65, 66, 67, 68, 69, 70, 71, 72, 73, 74, 75, 76, 77, 78, 79, 80, 81, 82, 83, 84] (by decide +kernel) (by decide +kernel)) (goodIn_sub (fun _ h => List.mem_cons_of_mem _ (List.mem_append_left _ (List.mem_append_right _ h))) (by decide +kernel))) (goodIn_sub (fun _ h => List.mem_cons_of_mem _ (List.mem_append_right _ h)) (by decide +kernel))
set_option maxRecDepth 20000 in
theorem gX6_judge_X6_dyedLotNumbered : GoodIn wsX6_judge (wsV RX6 170 RX6 yX6_dyedLotNumbered wsX6_dyedLotNumbered) := goodIn_app (goodIn_of _ (by decide +kernel)) ggX6_judge_X6_dyedLotNumbered
set_option maxRecDepth 20000 in
theorem ggX6_judge_X6_verdictOn : GoodIn wsX6_judge wsX6_verdictOn := goodIn_r _ [19, 20, 21, 22, 23, 24, 25, 26, 27, 28, 29, 30, 31, 32, 33, 34, 35, 36, 37, 38, 39, 40, 41, 42, 43, 44, 45, 5, 46, 15, 47, 48, 49, 50, 51, 52, 53, 54, 55, 56, 65, 66, 67, 68, 69, 70, 71, 72, 73, 85, 86, 87, 88, 89, 90, 91, 92, 93, 94, 74, 75, 76, 77, 78, 79, 80, 81, 82, 83, 84] (by decide +kernel) (by decide +kernel)
set_option maxRecDepth 20000 in
theorem gX6_judge_X6_verdictOn : GoodIn wsX6_judge (wsV RX6 173 RX6 yX6_verdictOn wsX6_verdictOn) := goodIn_app (goodIn_of _ (by decide +kernel)) ggX6_judge_X6_verdictOn
set_option maxRecDepth 20000 in
theorem ggX6_judge_X6_barVatOf : GoodIn wsX6_judge wsX6_barVatOf := goodIn_r _ [59, 60, 61, 62, 20, 63, 64, 65, 66, 67, 68, 69, 70, 71, 72, 73, 95, 96, 97, 98, 99, 100, 85, 86, 87, 88, 89] (by decide +kernel) (by decide +kernel)
set_option maxRecDepth 20000 in
theorem gX6_judge_X6_barVatOf : GoodIn wsX6_judge (va_wsS RX6 177 yX6_barVatOf wsX6_barVatOf) := goodIn_app (goodIn_of _ (by decide +kernel)) ggX6_judge_X6_barVatOf
theorem dX6_judge_0 : decode cX6_judge 0 = .ok (.aload_n 0, 1) := by decide +kernel
theorem dX6_judge_1 : decode cX6_judge 1 = .ok (.iload_n 1, 1) := by decide +kernel
theorem dX6_judge_2 : decode cX6_judge 2 = .ok (.invokevirtual 170, 3) := by decide +kernel
theorem dX6_judge_5 : decode cX6_judge 5 = .ok (.astore_n 2, 1) := by decide +kernel
theorem dX6_judge_6 : decode cX6_judge 6 = .ok (.aload_n 0, 1) := by decide +kernel
theorem dX6_judge_7 : decode cX6_judge 7 = .ok (.aload_n 2, 1) := by decide +kernel
theorem dX6_judge_8 : decode cX6_judge 8 = .ok (.invokevirtual 173, 3) := by decide +kernel
theorem dX6_judge_11 : decode cX6_judge 11 = .ok (.bipush 112, 2) := by decide +kernel
theorem dX6_judge_13 : decode cX6_judge 13 = .ok (.if_icmp .eq 11, 3) := by decide +kernel
theorem dX6_judge_16 : decode cX6_judge 16 = .ok (.aload_n 2, 1) := by decide +kernel
theorem dX6_judge_17 : decode cX6_judge 17 = .ok (.bipush 120, 2) := by decide +kernel
theorem dX6_judge_19 : decode cX6_judge 19 = .ok (.putfield 147, 3) := by decide +kernel
theorem dX6_judge_22 : decode cX6_judge 22 = .ok (.iconst 0, 1) := by decide +kernel
theorem dX6_judge_23 : decode cX6_judge 23 = .ok (.ireturn, 1) := by decide +kernel
theorem dX6_judge_24 : decode cX6_judge 24 = .ok (.aload_n 2, 1) := by decide +kernel
theorem dX6_judge_25 : decode cX6_judge 25 = .ok (.bipush 112, 2) := by decide +kernel
theorem dX6_judge_27 : decode cX6_judge 27 = .ok (.putfield 147, 3) := by decide +kernel
theorem dX6_judge_30 : decode cX6_judge 30 = .ok (.aload_n 2, 1) := by decide +kernel
theorem dX6_judge_31 : decode cX6_judge 31 = .ok (.invokestatic 177, 3) := by decide +kernel
theorem dX6_judge_34 : decode cX6_judge 34 = .ok (.iconst 1, 1) := by decide +kernel
theorem dX6_judge_35 : decode cX6_judge 35 = .ok (.ireturn, 1) := by decide +kernel
set_option maxRecDepth 20000 in
theorem ggX6_again_X6_lotNumbered : GoodIn wsX6_again wsX6_lotNumbered := goodIn_ca (goodIn_r _ [9, 10, 11, 12, 26, 27, 28, 29, 30, 31, 32, 33, 34, 35, 36] (by decide +kernel) (by decide +kernel)) (goodIn_sub (fun _ h => List.mem_cons_of_mem _ (List.mem_append_right _ h)) (by decide +kernel))
set_option maxRecDepth 20000 in
theorem gX6_again_X6_lotNumbered : GoodIn wsX6_again (wsV RX6 107 RX6 yX6_lotNumbered wsX6_lotNumbered) := goodIn_app (goodIn_of _ (by decide +kernel)) ggX6_again_X6_lotNumbered
set_option maxRecDepth 20000 in
theorem ggX6_again_X6_lotsInState : GoodIn wsX6_again wsX6_lotsInState := goodIn_r _ [16, 12, 3, 26, 27, 28, 29, 30, 31, 32, 33, 34, 35, 36, 17, 18, 19, 20, 21, 22, 23, 24, 25] (by decide +kernel) (by decide +kernel)
set_option maxRecDepth 20000 in
theorem gX6_again_X6_lotsInState : GoodIn wsX6_again (wsV RX6 180 RX6 yX6_lotsInState wsX6_lotsInState) := goodIn_app (goodIn_of _ (by decide +kernel)) ggX6_again_X6_lotsInState
theorem dX6_again_0 : decode cX6_again 0 = .ok (.aload_n 0, 1) := by decide +kernel
theorem dX6_again_1 : decode cX6_again 1 = .ok (.iload_n 1, 1) := by decide +kernel
theorem dX6_again_2 : decode cX6_again 2 = .ok (.invokevirtual 107, 3) := by decide +kernel
theorem dX6_again_5 : decode cX6_again 5 = .ok (.astore_n 2, 1) := by decide +kernel
theorem dX6_again_6 : decode cX6_again 6 = .ok (.aload_n 2, 1) := by decide +kernel
theorem dX6_again_7 : decode cX6_again 7 = .ok (.getfield 147, 3) := by decide +kernel
theorem dX6_again_10 : decode cX6_again 10 = .ok (.bipush 120, 2) := by decide +kernel
theorem dX6_again_12 : decode cX6_again 12 = .ok (.if_icmp .eq 11, 3) := by decide +kernel
theorem dX6_again_15 : decode cX6_again 15 = .ok (.new 56, 3) := by decide +kernel
theorem dX6_again_18 : decode cX6_again 18 = .ok (.dup, 1) := by decide +kernel
theorem dX6_again_19 : decode cX6_again 19 = .ok (.invokespecial 58, 3) := by decide +kernel
theorem dX6_again_22 : decode cX6_again 22 = .ok (.athrow, 1) := by decide +kernel
theorem dX6_again_23 : decode cX6_again 23 = .ok (.aload_n 2, 1) := by decide +kernel
theorem dX6_again_24 : decode cX6_again 24 = .ok (.bipush 119, 2) := by decide +kernel
theorem dX6_again_26 : decode cX6_again 26 = .ok (.putfield 147, 3) := by decide +kernel
theorem dX6_again_29 : decode cX6_again 29 = .ok (.aload_n 2, 1) := by decide +kernel
theorem dX6_again_30 : decode cX6_again 30 = .ok (.aconst_null, 1) := by decide +kernel
theorem dX6_again_31 : decode cX6_again 31 = .ok (.putfield 151, 3) := by decide +kernel
theorem dX6_again_34 : decode cX6_again 34 = .ok (.aload_n 0, 1) := by decide +kernel
theorem dX6_again_35 : decode cX6_again 35 = .ok (.bipush 119, 2) := by decide +kernel
theorem dX6_again_37 : decode cX6_again 37 = .ok (.invokevirtual 180, 3) := by decide +kernel
theorem dX6_again_40 : decode cX6_again 40 = .ok (.ireturn, 1) := by decide +kernel
set_option maxRecDepth 20000 in
theorem ggX6_plan_X6_lotNumbered : GoodIn wsX6_plan wsX6_lotNumbered := goodIn_ca (goodIn_r _ [13, 14, 15, 16, 41, 42, 43, 44, 45, 46, 47, 48, 49, 50, 51] (by decide +kernel) (by decide +kernel)) (goodIn_sub (fun _ h => List.mem_cons_of_mem _ (List.mem_append_right _ h)) (by decide +kernel))
set_option maxRecDepth 20000 in
theorem gX6_plan_X6_lotNumbered : GoodIn wsX6_plan (wsV RX6 107 RX6 yX6_lotNumbered wsX6_lotNumbered) := goodIn_app (goodIn_of _ (by decide +kernel)) ggX6_plan_X6_lotNumbered
set_option maxRecDepth 20000 in
theorem ggX6_plan_X6_vatNumbered : GoodIn wsX6_plan wsX6_vatNumbered := goodIn_ca (goodIn_r _ [20, 14, 15, 21, 41, 42, 43, 44, 45, 46, 47, 48, 49, 50, 51] (by decide +kernel) (by decide +kernel)) (goodIn_sub (fun _ h => List.mem_cons_of_mem _ (List.mem_append_right _ h)) (by decide +kernel))
set_option maxRecDepth 20000 in
theorem gX6_plan_X6_vatNumbered : GoodIn wsX6_plan (wsV RX6 119 RX6 yX6_vatNumbered wsX6_vatNumbered) := goodIn_app (goodIn_of _ (by decide +kernel)) ggX6_plan_X6_vatNumbered
set_option maxRecDepth 20000 in
theorem ggX6_plan_X6_plannedLots : GoodIn wsX6_plan wsX6_plannedLots := goodIn_r _ [25, 16, 6, 41, 42, 43, 44, 45, 46, 47, 48, 49, 50, 51, 26, 27, 28, 29, 30, 31, 32, 33, 34] (by decide +kernel) (by decide +kernel)
set_option maxRecDepth 20000 in
theorem gX6_plan_X6_plannedLots : GoodIn wsX6_plan (wsV RX6 184 RX6 yX6_plannedLots wsX6_plannedLots) := goodIn_app (goodIn_of _ (by decide +kernel)) ggX6_plan_X6_plannedLots
theorem dX6_plan_0 : decode cX6_plan 0 = .ok (.aload_n 0, 1) := by decide +kernel
theorem dX6_plan_1 : decode cX6_plan 1 = .ok (.iload_n 1, 1) := by decide +kernel
theorem dX6_plan_2 : decode cX6_plan 2 = .ok (.invokevirtual 107, 3) := by decide +kernel
theorem dX6_plan_5 : decode cX6_plan 5 = .ok (.astore_n 3, 1) := by decide +kernel
theorem dX6_plan_6 : decode cX6_plan 6 = .ok (.aload_n 0, 1) := by decide +kernel
theorem dX6_plan_7 : decode cX6_plan 7 = .ok (.iload_n 2, 1) := by decide +kernel
theorem dX6_plan_8 : decode cX6_plan 8 = .ok (.invokevirtual 119, 3) := by decide +kernel
theorem dX6_plan_11 : decode cX6_plan 11 = .ok (.astore 4, 2) := by decide +kernel
theorem dX6_plan_13 : decode cX6_plan 13 = .ok (.aload_n 0, 1) := by decide +kernel
theorem dX6_plan_14 : decode cX6_plan 14 = .ok (.aload 4, 2) := by decide +kernel
theorem dX6_plan_16 : decode cX6_plan 16 = .ok (.invokevirtual 184, 3) := by decide +kernel
theorem dX6_plan_19 : decode cX6_plan 19 = .ok (.istore 5, 2) := by decide +kernel
theorem dX6_plan_21 : decode cX6_plan 21 = .ok (.aload_n 3, 1) := by decide +kernel
theorem dX6_plan_22 : decode cX6_plan 22 = .ok (.getfield 147, 3) := by decide +kernel
theorem dX6_plan_25 : decode cX6_plan 25 = .ok (.bipush 119, 2) := by decide +kernel
theorem dX6_plan_27 : decode cX6_plan 27 = .ok (.if_icmp .ne 17, 3) := by decide +kernel
theorem dX6_plan_30 : decode cX6_plan 30 = .ok (.aload_n 3, 1) := by decide +kernel
theorem dX6_plan_31 : decode cX6_plan 31 = .ok (.getfield 164, 3) := by decide +kernel
theorem dX6_plan_34 : decode cX6_plan 34 = .ok (.ifnonnull 10, 3) := by decide +kernel
theorem dX6_plan_37 : decode cX6_plan 37 = .ok (.iload 5, 2) := by decide +kernel
theorem dX6_plan_39 : decode cX6_plan 39 = .ok (.bipush 6, 2) := by decide +kernel
theorem dX6_plan_41 : decode cX6_plan 41 = .ok (.if_icmp .lt 11, 3) := by decide +kernel
theorem dX6_plan_44 : decode cX6_plan 44 = .ok (.new 56, 3) := by decide +kernel
theorem dX6_plan_47 : decode cX6_plan 47 = .ok (.dup, 1) := by decide +kernel
theorem dX6_plan_48 : decode cX6_plan 48 = .ok (.invokespecial 58, 3) := by decide +kernel
theorem dX6_plan_51 : decode cX6_plan 51 = .ok (.athrow, 1) := by decide +kernel
theorem dX6_plan_52 : decode cX6_plan 52 = .ok (.aload_n 3, 1) := by decide +kernel
theorem dX6_plan_53 : decode cX6_plan 53 = .ok (.getfield 188, 3) := by decide +kernel
theorem dX6_plan_56 : decode cX6_plan 56 = .ok (.aload 4, 2) := by decide +kernel
theorem dX6_plan_58 : decode cX6_plan 58 = .ok (.getfield 191, 3) := by decide +kernel
theorem dX6_plan_61 : decode cX6_plan 61 = .ok (.if_icmp .le 11, 3) := by decide +kernel
theorem dX6_plan_64 : decode cX6_plan 64 = .ok (.new 127, 3) := by decide +kernel
theorem dX6_plan_67 : decode cX6_plan 67 = .ok (.dup, 1) := by decide +kernel
theorem dX6_plan_68 : decode cX6_plan 68 = .ok (.invokespecial 129, 3) := by decide +kernel
theorem dX6_plan_71 : decode cX6_plan 71 = .ok (.athrow, 1) := by decide +kernel
theorem dX6_plan_72 : decode cX6_plan 72 = .ok (.aload_n 3, 1) := by decide +kernel
theorem dX6_plan_73 : decode cX6_plan 73 = .ok (.aload 4, 2) := by decide +kernel
theorem dX6_plan_75 : decode cX6_plan 75 = .ok (.putfield 164, 3) := by decide +kernel
theorem dX6_plan_78 : decode cX6_plan 78 = .ok (.iload 5, 2) := by decide +kernel
theorem dX6_plan_80 : decode cX6_plan 80 = .ok (.iconst 1, 1) := by decide +kernel
theorem dX6_plan_81 : decode cX6_plan 81 = .ok (.iadd, 1) := by decide +kernel
theorem dX6_plan_82 : decode cX6_plan 82 = .ok (.ireturn, 1) := by decide +kernel
set_option maxRecDepth 20000 in
theorem ggX6_unplan_X6_lotNumbered : GoodIn wsX6_unplan wsX6_lotNumbered := goodIn_ca (goodIn_r _ [9, 10, 11, 12, 28, 29, 30, 31, 32, 33, 34, 35, 36, 37, 38] (by decide +kernel) (by decide +kernel)) (goodIn_sub (fun _ h => List.mem_cons_of_mem _ (List.mem_append_right _ h)) (by decide +kernel))
set_option maxRecDepth 20000 in
theorem gX6_unplan_X6_lotNumbered : GoodIn wsX6_unplan (wsV RX6 107 RX6 yX6_lotNumbered wsX6_lotNumbered) := goodIn_app (goodIn_of _ (by decide +kernel)) ggX6_unplan_X6_lotNumbered
theorem dX6_unplan_0 : decode cX6_unplan 0 = .ok (.aload_n 0, 1) := by decide +kernel
theorem dX6_unplan_1 : decode cX6_unplan 1 = .ok (.iload_n 1, 1) := by decide +kernel
theorem dX6_unplan_2 : decode cX6_unplan 2 = .ok (.invokevirtual 107, 3) := by decide +kernel
theorem dX6_unplan_5 : decode cX6_unplan 5 = .ok (.astore_n 2, 1) := by decide +kernel
theorem dX6_unplan_6 : decode cX6_unplan 6 = .ok (.aload_n 2, 1) := by decide +kernel
theorem dX6_unplan_7 : decode cX6_unplan 7 = .ok (.getfield 164, 3) := by decide +kernel
theorem dX6_unplan_10 : decode cX6_unplan 10 = .ok (.astore_n 3, 1) := by decide +kernel
theorem dX6_unplan_11 : decode cX6_unplan 11 = .ok (.aload_n 3, 1) := by decide +kernel
theorem dX6_unplan_12 : decode cX6_unplan 12 = .ok (.ifnonnull 11, 3) := by decide +kernel
theorem dX6_unplan_15 : decode cX6_unplan 15 = .ok (.new 56, 3) := by decide +kernel
theorem dX6_unplan_18 : decode cX6_unplan 18 = .ok (.dup, 1) := by decide +kernel
theorem dX6_unplan_19 : decode cX6_unplan 19 = .ok (.invokespecial 58, 3) := by decide +kernel
theorem dX6_unplan_22 : decode cX6_unplan 22 = .ok (.athrow, 1) := by decide +kernel
theorem dX6_unplan_23 : decode cX6_unplan 23 = .ok (.aload_n 2, 1) := by decide +kernel
theorem dX6_unplan_24 : decode cX6_unplan 24 = .ok (.aconst_null, 1) := by decide +kernel
theorem dX6_unplan_25 : decode cX6_unplan 25 = .ok (.putfield 164, 3) := by decide +kernel
theorem dX6_unplan_28 : decode cX6_unplan 28 = .ok (.aload_n 3, 1) := by decide +kernel
theorem dX6_unplan_29 : decode cX6_unplan 29 = .ok (.getfield 194, 3) := by decide +kernel
theorem dX6_unplan_32 : decode cX6_unplan 32 = .ok (.ireturn, 1) := by decide +kernel
set_option maxRecDepth 20000 in
theorem ggX6_planned_X6_vatNumbered : GoodIn wsX6_planned wsX6_vatNumbered := goodIn_ca (goodIn_r _ [5, 6, 7, 8, 15, 16, 17, 18, 19, 20, 21, 22, 23, 24, 25] (by decide +kernel) (by decide +kernel)) (goodIn_sub (fun _ h => List.mem_cons_of_mem _ (List.mem_append_right _ h)) (by decide +kernel))
set_option maxRecDepth 20000 in
theorem gX6_planned_X6_vatNumbered : GoodIn wsX6_planned (wsV RX6 119 RX6 yX6_vatNumbered wsX6_vatNumbered) := goodIn_app (goodIn_of _ (by decide +kernel)) ggX6_planned_X6_vatNumbered
set_option maxRecDepth 20000 in
theorem ggX6_planned_X6_plannedLots : GoodIn wsX6_planned wsX6_plannedLots := goodIn_r _ [12, 13, 14, 15, 16, 17, 18, 19, 20, 21, 22, 23, 24, 25, 26, 27, 28, 29, 30, 31, 32, 33, 34] (by decide +kernel) (by decide +kernel)
set_option maxRecDepth 20000 in
theorem gX6_planned_X6_plannedLots : GoodIn wsX6_planned (wsV RX6 184 RX6 yX6_plannedLots wsX6_plannedLots) := goodIn_app (goodIn_of _ (by decide +kernel)) ggX6_planned_X6_plannedLots
theorem dX6_planned_0 : decode cX6_planned 0 = .ok (.aload_n 0, 1) := by decide +kernel
theorem dX6_planned_1 : decode cX6_planned 1 = .ok (.aload_n 0, 1) := by decide +kernel
theorem dX6_planned_2 : decode cX6_planned 2 = .ok (.iload_n 1, 1) := by decide +kernel
theorem dX6_planned_3 : decode cX6_planned 3 = .ok (.invokevirtual 119, 3) := by decide +kernel
theorem dX6_planned_6 : decode cX6_planned 6 = .ok (.invokevirtual 184, 3) := by decide +kernel
theorem dX6_planned_9 : decode cX6_planned 9 = .ok (.ireturn, 1) := by decide +kernel
set_option maxRecDepth 20000 in
theorem ggX6_plannedAt_X6_vatNumbered : GoodIn wsX6_plannedAt wsX6_vatNumbered := goodIn_ca (goodIn_r _ [10, 11, 12, 13, 14, 15, 16, 17, 18, 19, 20, 21, 22, 23, 24] (by decide +kernel) (by decide +kernel)) (goodIn_sub (fun _ h => List.mem_cons_of_mem _ (List.mem_append_right _ h)) (by decide +kernel))
set_option maxRecDepth 20000 in
theorem gX6_plannedAt_X6_vatNumbered : GoodIn wsX6_plannedAt (wsV RX6 119 RX6 yX6_vatNumbered wsX6_vatNumbered) := goodIn_app (goodIn_of _ (by decide +kernel)) ggX6_plannedAt_X6_vatNumbered
theorem dX6_plannedAt_0 : decode cX6_plannedAt 0 = .ok (.aload_n 0, 1) := by decide +kernel
theorem dX6_plannedAt_1 : decode cX6_plannedAt 1 = .ok (.iload_n 1, 1) := by decide +kernel
theorem dX6_plannedAt_2 : decode cX6_plannedAt 2 = .ok (.invokevirtual 119, 3) := by decide +kernel
theorem dX6_plannedAt_5 : decode cX6_plannedAt 5 = .ok (.astore_n 3, 1) := by decide +kernel
theorem dX6_plannedAt_6 : decode cX6_plannedAt 6 = .ok (.iconst 0, 1) := by decide +kernel
theorem dX6_plannedAt_7 : decode cX6_plannedAt 7 = .ok (.istore 4, 2) := by decide +kernel
theorem dX6_plannedAt_9 : decode cX6_plannedAt 9 = .ok (.aload_n 0, 1) := by decide +kernel
theorem dX6_plannedAt_10 : decode cX6_plannedAt 10 = .ok (.getfield 23, 3) := by decide +kernel
theorem dX6_plannedAt_13 : decode cX6_plannedAt 13 = .ok (.astore 5, 2) := by decide +kernel
theorem dX6_plannedAt_15 : decode cX6_plannedAt 15 = .ok (.aload 5, 2) := by decide +kernel
theorem dX6_plannedAt_17 : decode cX6_plannedAt 17 = .ok (.arraylength, 1) := by decide +kernel
theorem dX6_plannedAt_18 : decode cX6_plannedAt 18 = .ok (.istore 6, 2) := by decide +kernel
theorem dX6_plannedAt_20 : decode cX6_plannedAt 20 = .ok (.iconst 0, 1) := by decide +kernel
theorem dX6_plannedAt_21 : decode cX6_plannedAt 21 = .ok (.istore 7, 2) := by decide +kernel
theorem dX6_plannedAt_23 : decode cX6_plannedAt 23 = .ok (.iload 7, 2) := by decide +kernel
theorem dX6_plannedAt_25 : decode cX6_plannedAt 25 = .ok (.iload 6, 2) := by decide +kernel
theorem dX6_plannedAt_27 : decode cX6_plannedAt 27 = .ok (.if_icmp .ge 45, 3) := by decide +kernel
theorem dX6_plannedAt_30 : decode cX6_plannedAt 30 = .ok (.aload 5, 2) := by decide +kernel
theorem dX6_plannedAt_32 : decode cX6_plannedAt 32 = .ok (.iload 7, 2) := by decide +kernel
theorem dX6_plannedAt_34 : decode cX6_plannedAt 34 = .ok (.aaload, 1) := by decide +kernel
theorem dX6_plannedAt_35 : decode cX6_plannedAt 35 = .ok (.astore 8, 2) := by decide +kernel
theorem dX6_plannedAt_37 : decode cX6_plannedAt 37 = .ok (.aload 8, 2) := by decide +kernel
theorem dX6_plannedAt_39 : decode cX6_plannedAt 39 = .ok (.ifnull 27, 3) := by decide +kernel
theorem dX6_plannedAt_42 : decode cX6_plannedAt 42 = .ok (.aload 8, 2) := by decide +kernel
theorem dX6_plannedAt_44 : decode cX6_plannedAt 44 = .ok (.getfield 164, 3) := by decide +kernel
theorem dX6_plannedAt_47 : decode cX6_plannedAt 47 = .ok (.aload_n 3, 1) := by decide +kernel
theorem dX6_plannedAt_48 : decode cX6_plannedAt 48 = .ok (.if_acmp .ne 18, 3) := by decide +kernel
theorem dX6_plannedAt_51 : decode cX6_plannedAt 51 = .ok (.iload 4, 2) := by decide +kernel
theorem dX6_plannedAt_53 : decode cX6_plannedAt 53 = .ok (.iload_n 2, 1) := by decide +kernel
theorem dX6_plannedAt_54 : decode cX6_plannedAt 54 = .ok (.if_icmp .ne 9, 3) := by decide +kernel
theorem dX6_plannedAt_57 : decode cX6_plannedAt 57 = .ok (.aload 8, 2) := by decide +kernel
theorem dX6_plannedAt_59 : decode cX6_plannedAt 59 = .ok (.getfield 197, 3) := by decide +kernel
theorem dX6_plannedAt_62 : decode cX6_plannedAt 62 = .ok (.ireturn, 1) := by decide +kernel
theorem dX6_plannedAt_63 : decode cX6_plannedAt 63 = .ok (.iinc 4 1, 3) := by decide +kernel
theorem dX6_plannedAt_66 : decode cX6_plannedAt 66 = .ok (.iinc 7 1, 3) := by decide +kernel
theorem dX6_plannedAt_69 : decode cX6_plannedAt 69 = .ok (.goto (-46), 3) := by decide +kernel
theorem dX6_plannedAt_72 : decode cX6_plannedAt 72 = .ok (.new 198, 3) := by decide +kernel
theorem dX6_plannedAt_75 : decode cX6_plannedAt 75 = .ok (.dup, 1) := by decide +kernel
theorem dX6_plannedAt_76 : decode cX6_plannedAt 76 = .ok (.invokespecial 200, 3) := by decide +kernel
theorem dX6_plannedAt_79 : decode cX6_plannedAt 79 = .ok (.athrow, 1) := by decide +kernel
set_option maxRecDepth 20000 in
theorem ggX6_leastHours_X6_vatNumbered : GoodIn wsX6_leastHours wsX6_vatNumbered := goodIn_ca (goodIn_r _ [6, 7, 8, 9, 65, 66, 67, 68, 69, 70, 71, 72, 73, 74, 75] (by decide +kernel) (by decide +kernel)) (goodIn_sub (fun _ h => List.mem_cons_of_mem _ (List.mem_append_left _ (List.mem_append_right _ h))) (by decide +kernel))
set_option maxRecDepth 20000 in
theorem gX6_leastHours_X6_vatNumbered : GoodIn wsX6_leastHours (wsV RX6 119 RX6 yX6_vatNumbered wsX6_vatNumbered) := goodIn_app (goodIn_of _ (by decide +kernel)) ggX6_leastHours_X6_vatNumbered
set_option maxRecDepth 20000 in
theorem ggX6_leastHours_X6_fillPlan : GoodIn wsX6_leastHours wsX6_fillPlan := goodIn_ca (goodIn_r _ [13, 1, 14, 15, 16, 17, 18, 19, 20, 21, 22, 23, 24, 25, 26, 27, 28, 29, 30, 31, 32, 33, 34, 35, 36, 37, 38, 39, 40, 41, 42, 43, 44, 45, 65, 66, 67, 68, 69, 70, 71, 72, 73, 74, 75, 76, 77, 78, 79, 80, 81, 82, 83, 84, 85, 86, 87, 88, 89, 90, 91, 92, 93, 94, 95, 96, 97, 98, 99, 100, 101, 102, 103, 104, 105, 106, 107] (by decide +kernel) (by decide +kernel)) (goodIn_sub (fun _ h => List.mem_cons_of_mem _ (List.mem_append_right _ h)) (by decide +kernel))
set_option maxRecDepth 20000 in
theorem gX6_leastHours_X6_fillPlan : GoodIn wsX6_leastHours (wsV RX6 201 RX6 yX6_fillPlan wsX6_fillPlan) := goodIn_app (goodIn_of _ (by decide +kernel)) ggX6_leastHours_X6_fillPlan
set_option maxRecDepth 20000 in
theorem ggX6_leastHours_X2_dyeingHours : GoodIn wsX6_leastHours wsX2_dyeingHours := goodIn_ca (goodIn_r _ [49, 21, 39, 85, 86, 87, 88, 89, 90, 91] (by decide +kernel) (by decide +kernel)) (goodIn_sub (fun _ h => List.mem_cons_of_mem _ (List.mem_append_right _ h)) (by decide +kernel))
set_option maxRecDepth 20000 in
theorem gX6_leastHours_X2_dyeingHours : GoodIn wsX6_leastHours (wsV RX6 205 RX2 yX2_dyeingHours wsX2_dyeingHours) := goodIn_app (goodIn_of _ (by decide +kernel)) ggX6_leastHours_X2_dyeingHours
set_option maxRecDepth 20000 in
theorem ggX6_leastHours_X2_fewestCleanings : GoodIn wsX6_leastHours wsX2_fewestCleanings := goodIn_ca (goodIn_r _ [53, 23, 25, 21, 54, 55, 19, 56, 32, 57, 58, 59, 60, 37, 61, 5, 62, 63, 64, 85, 86, 87, 88, 89, 90, 91] (by decide +kernel) (by decide +kernel)) (goodIn_sub (fun _ h => List.mem_cons_of_mem _ (List.mem_append_right _ h)) (by decide +kernel))
set_option maxRecDepth 20000 in
theorem gX6_leastHours_X2_fewestCleanings : GoodIn wsX6_leastHours (wsV RX6 206 RX2 yX2_fewestCleanings wsX2_fewestCleanings) := goodIn_app (goodIn_of _ (by decide +kernel)) ggX6_leastHours_X2_fewestCleanings
theorem dX6_leastHours_0 : decode cX6_leastHours 0 = .ok (.aload_n 0, 1) := by decide +kernel
theorem dX6_leastHours_1 : decode cX6_leastHours 1 = .ok (.aload_n 0, 1) := by decide +kernel
theorem dX6_leastHours_2 : decode cX6_leastHours 2 = .ok (.iload_n 1, 1) := by decide +kernel
theorem dX6_leastHours_3 : decode cX6_leastHours 3 = .ok (.invokevirtual 119, 3) := by decide +kernel
theorem dX6_leastHours_6 : decode cX6_leastHours 6 = .ok (.invokevirtual 201, 3) := by decide +kernel
theorem dX6_leastHours_9 : decode cX6_leastHours 9 = .ok (.aload_n 0, 1) := by decide +kernel
theorem dX6_leastHours_10 : decode cX6_leastHours 10 = .ok (.getfield 44, 3) := by decide +kernel
theorem dX6_leastHours_13 : decode cX6_leastHours 13 = .ok (.invokevirtual 205, 3) := by decide +kernel
theorem dX6_leastHours_16 : decode cX6_leastHours 16 = .ok (.iconst 3, 1) := by decide +kernel
theorem dX6_leastHours_17 : decode cX6_leastHours 17 = .ok (.aload_n 0, 1) := by decide +kernel
theorem dX6_leastHours_18 : decode cX6_leastHours 18 = .ok (.getfield 44, 3) := by decide +kernel
theorem dX6_leastHours_21 : decode cX6_leastHours 21 = .ok (.invokevirtual 206, 3) := by decide +kernel
theorem dX6_leastHours_24 : decode cX6_leastHours 24 = .ok (.imul, 1) := by decide +kernel
theorem dX6_leastHours_25 : decode cX6_leastHours 25 = .ok (.iadd, 1) := by decide +kernel
theorem dX6_leastHours_26 : decode cX6_leastHours 26 = .ok (.ireturn, 1) := by decide +kernel
set_option maxRecDepth 20000 in
theorem ggX6_leastByAll_X6_vatNumbered : GoodIn wsX6_leastByAll wsX6_vatNumbered := goodIn_ca (goodIn_r _ [6, 7, 8, 9, 66, 67, 68, 69, 70, 71, 72, 73, 74, 75, 76] (by decide +kernel) (by decide +kernel)) (goodIn_sub (fun _ h => List.mem_cons_of_mem _ (List.mem_append_left _ (List.mem_append_right _ h))) (by decide +kernel))
set_option maxRecDepth 20000 in
theorem gX6_leastByAll_X6_vatNumbered : GoodIn wsX6_leastByAll (wsV RX6 119 RX6 yX6_vatNumbered wsX6_vatNumbered) := goodIn_app (goodIn_of _ (by decide +kernel)) ggX6_leastByAll_X6_vatNumbered
set_option maxRecDepth 20000 in
theorem ggX6_leastByAll_X6_fillPlan : GoodIn wsX6_leastByAll wsX6_fillPlan := goodIn_ca (goodIn_r _ [13, 1, 14, 15, 16, 17, 18, 19, 20, 21, 22, 23, 24, 25, 26, 27, 28, 29, 30, 31, 32, 33, 34, 35, 36, 37, 38, 39, 40, 41, 42, 43, 44, 45, 66, 67, 68, 69, 70, 71, 72, 73, 74, 75, 76, 77, 78, 79, 80, 81, 82, 83, 84, 85, 86, 87, 88, 89, 90, 91, 92, 93, 94, 95, 96, 97, 98, 99, 100, 101, 102, 103, 104, 105, 106, 107, 108] (by decide +kernel) (by decide +kernel)) (goodIn_sub (fun _ h => List.mem_cons_of_mem _ (List.mem_append_right _ h)) (by decide +kernel))
set_option maxRecDepth 20000 in
theorem gX6_leastByAll_X6_fillPlan : GoodIn wsX6_leastByAll (wsV RX6 201 RX6 yX6_fillPlan wsX6_fillPlan) := goodIn_app (goodIn_of _ (by decide +kernel)) ggX6_leastByAll_X6_fillPlan
set_option maxRecDepth 20000 in
theorem ggX6_leastByAll_X2_leastOfAllOrders : GoodIn wsX6_leastByAll wsX2_leastOfAllOrders := goodIn_ca (goodIn_r _ [49, 23, 25, 50, 51, 19, 52, 21, 53, 39, 32, 54, 55, 56, 57, 58, 59, 60, 61, 37, 62, 5, 63, 64, 65, 86, 87, 88, 89, 90, 91, 92] (by decide +kernel) (by decide +kernel)) (goodIn_sub (fun _ h => List.mem_cons_of_mem _ (List.mem_append_right _ h)) (by decide +kernel))
set_option maxRecDepth 20000 in
theorem gX6_leastByAll_X2_leastOfAllOrders : GoodIn wsX6_leastByAll (wsV RX6 209 RX2 yX2_leastOfAllOrders wsX2_leastOfAllOrders) := goodIn_app (goodIn_of _ (by decide +kernel)) ggX6_leastByAll_X2_leastOfAllOrders
theorem dX6_leastByAll_0 : decode cX6_leastByAll 0 = .ok (.aload_n 0, 1) := by decide +kernel
theorem dX6_leastByAll_1 : decode cX6_leastByAll 1 = .ok (.aload_n 0, 1) := by decide +kernel
theorem dX6_leastByAll_2 : decode cX6_leastByAll 2 = .ok (.iload_n 1, 1) := by decide +kernel
theorem dX6_leastByAll_3 : decode cX6_leastByAll 3 = .ok (.invokevirtual 119, 3) := by decide +kernel
theorem dX6_leastByAll_6 : decode cX6_leastByAll 6 = .ok (.invokevirtual 201, 3) := by decide +kernel
theorem dX6_leastByAll_9 : decode cX6_leastByAll 9 = .ok (.aload_n 0, 1) := by decide +kernel
theorem dX6_leastByAll_10 : decode cX6_leastByAll 10 = .ok (.getfield 44, 3) := by decide +kernel
theorem dX6_leastByAll_13 : decode cX6_leastByAll 13 = .ok (.invokevirtual 209, 3) := by decide +kernel
theorem dX6_leastByAll_16 : decode cX6_leastByAll 16 = .ok (.ireturn, 1) := by decide +kernel
set_option maxRecDepth 20000 in
theorem ggX6_firstOf_X6_vatNumbered : GoodIn wsX6_firstOf wsX6_vatNumbered := goodIn_ca (goodIn_r _ [8, 9, 10, 11, 75, 76, 77, 78, 79, 80, 81, 82, 83, 84, 85] (by decide +kernel) (by decide +kernel)) (goodIn_sub (fun _ h => List.mem_cons_of_mem _ (List.mem_append_left _ (List.mem_append_right _ h))) (by decide +kernel))
set_option maxRecDepth 20000 in
theorem gX6_firstOf_X6_vatNumbered : GoodIn wsX6_firstOf (wsV RX6 119 RX6 yX6_vatNumbered wsX6_vatNumbered) := goodIn_app (goodIn_of _ (by decide +kernel)) ggX6_firstOf_X6_vatNumbered
set_option maxRecDepth 20000 in
theorem ggX6_firstOf_X6_plannedLots : GoodIn wsX6_firstOf wsX6_plannedLots := goodIn_r _ [15, 16, 17, 75, 76, 77, 78, 79, 80, 81, 82, 83, 84, 85, 86, 87, 88, 89, 90, 91, 92, 93, 94] (by decide +kernel) (by decide +kernel)
set_option maxRecDepth 20000 in
theorem gX6_firstOf_X6_plannedLots : GoodIn wsX6_firstOf (wsV RX6 184 RX6 yX6_plannedLots wsX6_plannedLots) := goodIn_app (goodIn_of _ (by decide +kernel)) ggX6_firstOf_X6_plannedLots
set_option maxRecDepth 20000 in
theorem ggX6_firstOf_X6_fillPlan : GoodIn wsX6_firstOf wsX6_fillPlan := goodIn_ca (goodIn_r _ [21, 3, 16, 17, 22, 23, 24, 25, 26, 27, 28, 29, 30, 31, 32, 33, 34, 35, 36, 37, 38, 39, 40, 41, 42, 43, 44, 45, 46, 47, 48, 49, 50, 51, 75, 76, 77, 78, 79, 80, 81, 82, 83, 84, 85, 86, 87, 88, 89, 90, 91, 92, 93, 94, 95, 96, 97, 98, 99, 100, 101, 102, 103, 104, 105, 106, 107, 108, 109, 110, 111, 112, 113, 114, 115, 116, 117] (by decide +kernel) (by decide +kernel)) (goodIn_sub (fun _ h => List.mem_cons_of_mem _ (List.mem_append_right _ h)) (by decide +kernel))
set_option maxRecDepth 20000 in
theorem gX6_firstOf_X6_fillPlan : GoodIn wsX6_firstOf (wsV RX6 201 RX6 yX6_fillPlan wsX6_fillPlan) := goodIn_app (goodIn_of _ (by decide +kernel)) ggX6_firstOf_X6_fillPlan
set_option maxRecDepth 20000 in
theorem ggX6_firstOf_X2_firstOfBestOrder : GoodIn wsX6_firstOf wsX2_firstOfBestOrder := goodIn_ca (goodIn_r _ [55, 27, 36, 56, 57, 58, 25, 59, 29, 31, 60, 61, 62, 38, 63, 64, 65, 66, 43, 67, 7, 68, 69, 70, 71, 72, 73, 74, 95, 96, 97, 98, 99, 100, 101] (by decide +kernel) (by decide +kernel)) (goodIn_sub (fun _ h => List.mem_cons_of_mem _ (List.mem_append_right _ h)) (by decide +kernel))
set_option maxRecDepth 20000 in
theorem gX6_firstOf_X2_firstOfBestOrder : GoodIn wsX6_firstOf (wsV RX6 212 RX2 yX2_firstOfBestOrder wsX2_firstOfBestOrder) := goodIn_app (goodIn_of _ (by decide +kernel)) ggX6_firstOf_X2_firstOfBestOrder
theorem dX6_firstOf_0 : decode cX6_firstOf 0 = .ok (.aload_n 0, 1) := by decide +kernel
theorem dX6_firstOf_1 : decode cX6_firstOf 1 = .ok (.iload_n 1, 1) := by decide +kernel
theorem dX6_firstOf_2 : decode cX6_firstOf 2 = .ok (.invokevirtual 119, 3) := by decide +kernel
theorem dX6_firstOf_5 : decode cX6_firstOf 5 = .ok (.astore_n 2, 1) := by decide +kernel
theorem dX6_firstOf_6 : decode cX6_firstOf 6 = .ok (.aload_n 0, 1) := by decide +kernel
theorem dX6_firstOf_7 : decode cX6_firstOf 7 = .ok (.aload_n 2, 1) := by decide +kernel
theorem dX6_firstOf_8 : decode cX6_firstOf 8 = .ok (.invokevirtual 184, 3) := by decide +kernel
theorem dX6_firstOf_11 : decode cX6_firstOf 11 = .ok (.ifCond .ne 11, 3) := by decide +kernel
theorem dX6_firstOf_14 : decode cX6_firstOf 14 = .ok (.new 56, 3) := by decide +kernel
theorem dX6_firstOf_17 : decode cX6_firstOf 17 = .ok (.dup, 1) := by decide +kernel
theorem dX6_firstOf_18 : decode cX6_firstOf 18 = .ok (.invokespecial 58, 3) := by decide +kernel
theorem dX6_firstOf_21 : decode cX6_firstOf 21 = .ok (.athrow, 1) := by decide +kernel
theorem dX6_firstOf_22 : decode cX6_firstOf 22 = .ok (.aload_n 0, 1) := by decide +kernel
theorem dX6_firstOf_23 : decode cX6_firstOf 23 = .ok (.aload_n 2, 1) := by decide +kernel
theorem dX6_firstOf_24 : decode cX6_firstOf 24 = .ok (.invokevirtual 201, 3) := by decide +kernel
theorem dX6_firstOf_27 : decode cX6_firstOf 27 = .ok (.aload_n 0, 1) := by decide +kernel
theorem dX6_firstOf_28 : decode cX6_firstOf 28 = .ok (.getfield 44, 3) := by decide +kernel
theorem dX6_firstOf_31 : decode cX6_firstOf 31 = .ok (.invokevirtual 212, 3) := by decide +kernel
theorem dX6_firstOf_34 : decode cX6_firstOf 34 = .ok (.ireturn, 1) := by decide +kernel
theorem dX6_recipes_0 : decode cX6_recipes 0 = .ok (.aload_n 0, 1) := by decide +kernel
theorem dX6_recipes_1 : decode cX6_recipes 1 = .ok (.getfield 52, 3) := by decide +kernel
theorem dX6_recipes_4 : decode cX6_recipes 4 = .ok (.ireturn, 1) := by decide +kernel
theorem dX6_lots_0 : decode cX6_lots 0 = .ok (.aload_n 0, 1) := by decide +kernel
theorem dX6_lots_1 : decode cX6_lots 1 = .ok (.getfield 95, 3) := by decide +kernel
theorem dX6_lots_4 : decode cX6_lots 4 = .ok (.ireturn, 1) := by decide +kernel
set_option maxRecDepth 20000 in
theorem ggX6_stateOf_X6_lotNumbered : GoodIn wsX6_stateOf wsX6_lotNumbered := goodIn_ca (goodIn_r _ [6, 7, 8, 9, 19, 20, 21, 22, 23, 24, 25, 26, 27, 28, 29] (by decide +kernel) (by decide +kernel)) (goodIn_sub (fun _ h => List.mem_cons_of_mem _ (List.mem_append_right _ h)) (by decide +kernel))
set_option maxRecDepth 20000 in
theorem gX6_stateOf_X6_lotNumbered : GoodIn wsX6_stateOf (wsV RX6 107 RX6 yX6_lotNumbered wsX6_lotNumbered) := goodIn_app (goodIn_of _ (by decide +kernel)) ggX6_stateOf_X6_lotNumbered
theorem dX6_stateOf_0 : decode cX6_stateOf 0 = .ok (.aload_n 0, 1) := by decide +kernel
theorem dX6_stateOf_1 : decode cX6_stateOf 1 = .ok (.iload_n 1, 1) := by decide +kernel
theorem dX6_stateOf_2 : decode cX6_stateOf 2 = .ok (.invokevirtual 107, 3) := by decide +kernel
theorem dX6_stateOf_5 : decode cX6_stateOf 5 = .ok (.getfield 147, 3) := by decide +kernel
theorem dX6_stateOf_8 : decode cX6_stateOf 8 = .ok (.ireturn, 1) := by decide +kernel
set_option maxRecDepth 20000 in
theorem ggX6_shadeOf_X6_shadedLotNumbered : GoodIn wsX6_shadeOf wsX6_shadedLotNumbered := goodIn_ca (goodIn_ca (goodIn_r _ [11, 12, 13, 14, 15, 16, 17, 10, 18, 19, 20, 21, 22, 23, 24, 25, 26, 27, 28, 29, 30, 34, 35, 36, 37, 38, 39, 40, 41, 42, 43, 44] (by decide +kernel) (by decide +kernel)) (goodIn_sub (fun _ h => List.mem_cons_of_mem _ (List.mem_append_left _ (List.mem_append_right _ h))) (by decide +kernel))) (goodIn_sub (fun _ h => List.mem_cons_of_mem _ (List.mem_append_right _ h)) (by decide +kernel))
set_option maxRecDepth 20000 in
theorem gX6_shadeOf_X6_shadedLotNumbered : GoodIn wsX6_shadeOf (wsV RX6 215 RX6 yX6_shadedLotNumbered wsX6_shadedLotNumbered) := goodIn_app (goodIn_of _ (by decide +kernel)) ggX6_shadeOf_X6_shadedLotNumbered
theorem dX6_shadeOf_0 : decode cX6_shadeOf 0 = .ok (.aload_n 0, 1) := by decide +kernel
theorem dX6_shadeOf_1 : decode cX6_shadeOf 1 = .ok (.iload_n 1, 1) := by decide +kernel
theorem dX6_shadeOf_2 : decode cX6_shadeOf 2 = .ok (.invokevirtual 215, 3) := by decide +kernel
theorem dX6_shadeOf_5 : decode cX6_shadeOf 5 = .ok (.getfield 140, 3) := by decide +kernel
theorem dX6_shadeOf_8 : decode cX6_shadeOf 8 = .ok (.astore_n 3, 1) := by decide +kernel
theorem dX6_shadeOf_9 : decode cX6_shadeOf 9 = .ok (.iload_n 2, 1) := by decide +kernel
theorem dX6_shadeOf_10 : decode cX6_shadeOf 10 = .ok (.tableswitch 41 0 2 #[26, 31, 36], 26) := by decide +kernel
theorem dX6_shadeOf_36 : decode cX6_shadeOf 36 = .ok (.aload_n 3, 1) := by decide +kernel
theorem dX6_shadeOf_37 : decode cX6_shadeOf 37 = .ok (.getfield 218, 3) := by decide +kernel
theorem dX6_shadeOf_40 : decode cX6_shadeOf 40 = .ok (.ireturn, 1) := by decide +kernel
theorem dX6_shadeOf_41 : decode cX6_shadeOf 41 = .ok (.aload_n 3, 1) := by decide +kernel
theorem dX6_shadeOf_42 : decode cX6_shadeOf 42 = .ok (.getfield 219, 3) := by decide +kernel
theorem dX6_shadeOf_45 : decode cX6_shadeOf 45 = .ok (.ireturn, 1) := by decide +kernel
theorem dX6_shadeOf_46 : decode cX6_shadeOf 46 = .ok (.aload_n 3, 1) := by decide +kernel
theorem dX6_shadeOf_47 : decode cX6_shadeOf 47 = .ok (.getfield 222, 3) := by decide +kernel
theorem dX6_shadeOf_50 : decode cX6_shadeOf 50 = .ok (.ireturn, 1) := by decide +kernel
theorem dX6_shadeOf_51 : decode cX6_shadeOf 51 = .ok (.new 198, 3) := by decide +kernel
theorem dX6_shadeOf_54 : decode cX6_shadeOf 54 = .ok (.dup, 1) := by decide +kernel
theorem dX6_shadeOf_55 : decode cX6_shadeOf 55 = .ok (.invokespecial 200, 3) := by decide +kernel
theorem dX6_shadeOf_58 : decode cX6_shadeOf 58 = .ok (.athrow, 1) := by decide +kernel
set_option maxRecDepth 20000 in
theorem ggX6_vatOf_X6_lotNumbered : GoodIn wsX6_vatOf wsX6_lotNumbered := goodIn_ca (goodIn_r _ [9, 10, 11, 12, 28, 29, 30, 31, 32, 33, 34, 35, 36, 37, 38] (by decide +kernel) (by decide +kernel)) (goodIn_sub (fun _ h => List.mem_cons_of_mem _ (List.mem_append_right _ h)) (by decide +kernel))
set_option maxRecDepth 20000 in
theorem gX6_vatOf_X6_lotNumbered : GoodIn wsX6_vatOf (wsV RX6 107 RX6 yX6_lotNumbered wsX6_lotNumbered) := goodIn_app (goodIn_of _ (by decide +kernel)) ggX6_vatOf_X6_lotNumbered
theorem dX6_vatOf_0 : decode cX6_vatOf 0 = .ok (.aload_n 0, 1) := by decide +kernel
theorem dX6_vatOf_1 : decode cX6_vatOf 1 = .ok (.iload_n 1, 1) := by decide +kernel
theorem dX6_vatOf_2 : decode cX6_vatOf 2 = .ok (.invokevirtual 107, 3) := by decide +kernel
theorem dX6_vatOf_5 : decode cX6_vatOf 5 = .ok (.getfield 151, 3) := by decide +kernel
theorem dX6_vatOf_8 : decode cX6_vatOf 8 = .ok (.astore_n 2, 1) := by decide +kernel
theorem dX6_vatOf_9 : decode cX6_vatOf 9 = .ok (.aload_n 2, 1) := by decide +kernel
theorem dX6_vatOf_10 : decode cX6_vatOf 10 = .ok (.ifnonnull 11, 3) := by decide +kernel
theorem dX6_vatOf_13 : decode cX6_vatOf 13 = .ok (.new 56, 3) := by decide +kernel
theorem dX6_vatOf_16 : decode cX6_vatOf 16 = .ok (.dup, 1) := by decide +kernel
theorem dX6_vatOf_17 : decode cX6_vatOf 17 = .ok (.invokespecial 58, 3) := by decide +kernel
theorem dX6_vatOf_20 : decode cX6_vatOf 20 = .ok (.athrow, 1) := by decide +kernel
theorem dX6_vatOf_21 : decode cX6_vatOf 21 = .ok (.aload_n 2, 1) := by decide +kernel
theorem dX6_vatOf_22 : decode cX6_vatOf 22 = .ok (.getfield 194, 3) := by decide +kernel
theorem dX6_vatOf_25 : decode cX6_vatOf 25 = .ok (.ireturn, 1) := by decide +kernel
set_option maxRecDepth 20000 in
theorem ggX6_offBy_X6_shadedLotNumbered : GoodIn wsX6_offBy wsX6_shadedLotNumbered := goodIn_ca (goodIn_ca (goodIn_r _ [5, 6, 7, 8, 9, 10, 11, 4, 12, 13, 14, 15, 37, 38, 39, 40, 41, 42, 43, 44, 45, 46, 47, 48, 49, 50, 51, 52, 53, 54, 55, 56] (by decide +kernel) (by decide +kernel)) (goodIn_sub (fun _ h => List.mem_cons_of_mem _ (List.mem_append_left _ (List.mem_append_right _ h))) (by decide +kernel))) (goodIn_sub (fun _ h => List.mem_cons_of_mem _ (List.mem_append_right _ h)) (by decide +kernel))
set_option maxRecDepth 20000 in
theorem gX6_offBy_X6_shadedLotNumbered : GoodIn wsX6_offBy (wsV RX6 215 RX6 yX6_shadedLotNumbered wsX6_shadedLotNumbered) := goodIn_app (goodIn_of _ (by decide +kernel)) ggX6_offBy_X6_shadedLotNumbered
set_option maxRecDepth 20000 in
theorem ggX6_offBy_X0_distanceFromRecipe : GoodIn wsX6_offBy wsX0_distanceFromRecipe := goodIn_r _ [20, 21, 22, 23, 24, 25, 26, 27, 28, 29, 30, 31, 32, 33, 34, 35, 36, 37, 38, 39, 40, 41, 42, 43, 44, 45, 57, 58, 59, 60, 61, 62, 63, 64, 65, 66] (by decide +kernel) (by decide +kernel)
set_option maxRecDepth 20000 in
theorem gX6_offBy_X0_distanceFromRecipe : GoodIn wsX6_offBy (wsV RX6 225 RX0 yX0_distanceFromRecipe wsX0_distanceFromRecipe) := goodIn_app (goodIn_of _ (by decide +kernel)) ggX6_offBy_X0_distanceFromRecipe
theorem dX6_offBy_0 : decode cX6_offBy 0 = .ok (.aload_n 0, 1) := by decide +kernel
theorem dX6_offBy_1 : decode cX6_offBy 1 = .ok (.iload_n 1, 1) := by decide +kernel
theorem dX6_offBy_2 : decode cX6_offBy 2 = .ok (.invokevirtual 215, 3) := by decide +kernel
theorem dX6_offBy_5 : decode cX6_offBy 5 = .ok (.invokevirtual 225, 3) := by decide +kernel
theorem dX6_offBy_8 : decode cX6_offBy 8 = .ok (.ireturn, 1) := by decide +kernel
set_option maxRecDepth 20000 in
theorem ggX6_distance_X6_lotNumbered : GoodIn wsX6_distance wsX6_lotNumbered := goodIn_ca (goodIn_r _ [9, 10, 11, 12, 34, 35, 36, 37, 38, 39, 40, 41, 42, 43, 44] (by decide +kernel) (by decide +kernel)) (goodIn_sub (fun _ h => List.mem_cons_of_mem _ (List.mem_append_right _ h)) (by decide +kernel))
set_option maxRecDepth 20000 in
theorem gX6_distance_X6_lotNumbered : GoodIn wsX6_distance (wsV RX6 107 RX6 yX6_lotNumbered wsX6_lotNumbered) := goodIn_app (goodIn_of _ (by decide +kernel)) ggX6_distance_X6_lotNumbered
set_option maxRecDepth 20000 in
theorem ggX6_distance_X4_distanceTo : GoodIn wsX6_distance wsX4_distanceTo := goodIn_r _ [17, 18, 19, 20, 21, 22, 23, 24, 45, 46, 47] (by decide +kernel) (by decide +kernel)
set_option maxRecDepth 20000 in
theorem gX6_distance_X4_distanceTo : GoodIn wsX6_distance (wsV RX6 228 RX4 yX4_distanceTo wsX4_distanceTo) := goodIn_app (goodIn_of _ (by decide +kernel)) ggX6_distance_X4_distanceTo
theorem dX6_distance_0 : decode cX6_distance 0 = .ok (.aload_n 0, 1) := by decide +kernel
theorem dX6_distance_1 : decode cX6_distance 1 = .ok (.iload_n 1, 1) := by decide +kernel
theorem dX6_distance_2 : decode cX6_distance 2 = .ok (.invokevirtual 107, 3) := by decide +kernel
theorem dX6_distance_5 : decode cX6_distance 5 = .ok (.astore_n 3, 1) := by decide +kernel
theorem dX6_distance_6 : decode cX6_distance 6 = .ok (.aload_n 0, 1) := by decide +kernel
theorem dX6_distance_7 : decode cX6_distance 7 = .ok (.iload_n 2, 1) := by decide +kernel
theorem dX6_distance_8 : decode cX6_distance 8 = .ok (.invokevirtual 107, 3) := by decide +kernel
theorem dX6_distance_11 : decode cX6_distance 11 = .ok (.astore 4, 2) := by decide +kernel
theorem dX6_distance_13 : decode cX6_distance 13 = .ok (.aload_n 3, 1) := by decide +kernel
theorem dX6_distance_14 : decode cX6_distance 14 = .ok (.getfield 147, 3) := by decide +kernel
theorem dX6_distance_17 : decode cX6_distance 17 = .ok (.bipush 119, 2) := by decide +kernel
theorem dX6_distance_19 : decode cX6_distance 19 = .ok (.if_icmp .eq 13, 3) := by decide +kernel
theorem dX6_distance_22 : decode cX6_distance 22 = .ok (.aload 4, 2) := by decide +kernel
theorem dX6_distance_24 : decode cX6_distance 24 = .ok (.getfield 147, 3) := by decide +kernel
theorem dX6_distance_27 : decode cX6_distance 27 = .ok (.bipush 119, 2) := by decide +kernel
theorem dX6_distance_29 : decode cX6_distance 29 = .ok (.if_icmp .ne 11, 3) := by decide +kernel
theorem dX6_distance_32 : decode cX6_distance 32 = .ok (.new 56, 3) := by decide +kernel
theorem dX6_distance_35 : decode cX6_distance 35 = .ok (.dup, 1) := by decide +kernel
theorem dX6_distance_36 : decode cX6_distance 36 = .ok (.invokespecial 58, 3) := by decide +kernel
theorem dX6_distance_39 : decode cX6_distance 39 = .ok (.athrow, 1) := by decide +kernel
theorem dX6_distance_40 : decode cX6_distance 40 = .ok (.aload_n 3, 1) := by decide +kernel
theorem dX6_distance_41 : decode cX6_distance 41 = .ok (.getfield 140, 3) := by decide +kernel
theorem dX6_distance_44 : decode cX6_distance 44 = .ok (.aload 4, 2) := by decide +kernel
theorem dX6_distance_46 : decode cX6_distance 46 = .ok (.getfield 140, 3) := by decide +kernel
theorem dX6_distance_49 : decode cX6_distance 49 = .ok (.invokevirtual 228, 3) := by decide +kernel
theorem dX6_distance_52 : decode cX6_distance 52 = .ok (.ireturn, 1) := by decide +kernel
set_option maxRecDepth 20000 in
theorem ggX6_nearest_X6_shadedLotNumbered : GoodIn wsX6_nearest wsX6_shadedLotNumbered := goodIn_ca (goodIn_ca (goodIn_r _ [11, 12, 13, 4, 14, 15, 16, 10, 17, 18, 19, 3, 43, 44, 45, 46, 47, 48, 49, 50, 51, 32, 33, 34, 35, 36, 37, 38, 39, 40, 41, 42] (by decide +kernel) (by decide +kernel)) (goodIn_sub (fun _ h => List.mem_cons_of_mem _ (List.mem_append_left _ (List.mem_append_right _ h))) (by decide +kernel))) (goodIn_sub (fun _ h => List.mem_cons_of_mem _ (List.mem_append_right _ h)) (by decide +kernel))
set_option maxRecDepth 20000 in
theorem gX6_nearest_X6_shadedLotNumbered : GoodIn wsX6_nearest (wsV RX6 215 RX6 yX6_shadedLotNumbered wsX6_shadedLotNumbered) := goodIn_app (goodIn_of _ (by decide +kernel)) ggX6_nearest_X6_shadedLotNumbered
set_option maxRecDepth 20000 in
theorem ggX6_nearest_X4_distanceTo : GoodIn wsX6_nearest wsX4_distanceTo := goodIn_r _ [24, 25, 26, 27, 28, 29, 30, 31, 52, 53, 54] (by decide +kernel) (by decide +kernel)
set_option maxRecDepth 20000 in
theorem gX6_nearest_X4_distanceTo : GoodIn wsX6_nearest (wsV RX6 228 RX4 yX4_distanceTo wsX4_distanceTo) := goodIn_app (goodIn_of _ (by decide +kernel)) ggX6_nearest_X4_distanceTo
theorem dX6_nearest_0 : decode cX6_nearest 0 = .ok (.aload_n 0, 1) := by decide +kernel
theorem dX6_nearest_1 : decode cX6_nearest 1 = .ok (.iload_n 1, 1) := by decide +kernel
theorem dX6_nearest_2 : decode cX6_nearest 2 = .ok (.invokevirtual 215, 3) := by decide +kernel
theorem dX6_nearest_5 : decode cX6_nearest 5 = .ok (.astore_n 2, 1) := by decide +kernel
theorem dX6_nearest_6 : decode cX6_nearest 6 = .ok (.iconst (-1), 1) := by decide +kernel
theorem dX6_nearest_7 : decode cX6_nearest 7 = .ok (.istore_n 3, 1) := by decide +kernel
theorem dX6_nearest_8 : decode cX6_nearest 8 = .ok (.iconst 0, 1) := by decide +kernel
theorem dX6_nearest_9 : decode cX6_nearest 9 = .ok (.istore 4, 2) := by decide +kernel
theorem dX6_nearest_11 : decode cX6_nearest 11 = .ok (.aload_n 0, 1) := by decide +kernel
theorem dX6_nearest_12 : decode cX6_nearest 12 = .ok (.getfield 23, 3) := by decide +kernel
theorem dX6_nearest_15 : decode cX6_nearest 15 = .ok (.astore 5, 2) := by decide +kernel
theorem dX6_nearest_17 : decode cX6_nearest 17 = .ok (.aload 5, 2) := by decide +kernel
theorem dX6_nearest_19 : decode cX6_nearest 19 = .ok (.arraylength, 1) := by decide +kernel
theorem dX6_nearest_20 : decode cX6_nearest 20 = .ok (.istore 6, 2) := by decide +kernel
theorem dX6_nearest_22 : decode cX6_nearest 22 = .ok (.iconst 0, 1) := by decide +kernel
theorem dX6_nearest_23 : decode cX6_nearest 23 = .ok (.istore 7, 2) := by decide +kernel
theorem dX6_nearest_25 : decode cX6_nearest 25 = .ok (.iload 7, 2) := by decide +kernel
theorem dX6_nearest_27 : decode cX6_nearest 27 = .ok (.iload 6, 2) := by decide +kernel
theorem dX6_nearest_29 : decode cX6_nearest 29 = .ok (.if_icmp .ge 73, 3) := by decide +kernel
theorem dX6_nearest_32 : decode cX6_nearest 32 = .ok (.aload 5, 2) := by decide +kernel
theorem dX6_nearest_34 : decode cX6_nearest 34 = .ok (.iload 7, 2) := by decide +kernel
theorem dX6_nearest_36 : decode cX6_nearest 36 = .ok (.aaload, 1) := by decide +kernel
theorem dX6_nearest_37 : decode cX6_nearest 37 = .ok (.astore 8, 2) := by decide +kernel
theorem dX6_nearest_39 : decode cX6_nearest 39 = .ok (.aload 8, 2) := by decide +kernel
theorem dX6_nearest_41 : decode cX6_nearest 41 = .ok (.ifnull 55, 3) := by decide +kernel
theorem dX6_nearest_44 : decode cX6_nearest 44 = .ok (.aload 8, 2) := by decide +kernel
theorem dX6_nearest_46 : decode cX6_nearest 46 = .ok (.aload_n 2, 1) := by decide +kernel
theorem dX6_nearest_47 : decode cX6_nearest 47 = .ok (.if_acmp .eq 49, 3) := by decide +kernel
theorem dX6_nearest_50 : decode cX6_nearest 50 = .ok (.aload 8, 2) := by decide +kernel
theorem dX6_nearest_52 : decode cX6_nearest 52 = .ok (.getfield 147, 3) := by decide +kernel
theorem dX6_nearest_55 : decode cX6_nearest 55 = .ok (.bipush 112, 2) := by decide +kernel
theorem dX6_nearest_57 : decode cX6_nearest 57 = .ok (.if_icmp .ne 39, 3) := by decide +kernel
theorem dX6_nearest_60 : decode cX6_nearest 60 = .ok (.aload_n 2, 1) := by decide +kernel
theorem dX6_nearest_61 : decode cX6_nearest 61 = .ok (.getfield 140, 3) := by decide +kernel
theorem dX6_nearest_64 : decode cX6_nearest 64 = .ok (.aload 8, 2) := by decide +kernel
theorem dX6_nearest_66 : decode cX6_nearest 66 = .ok (.getfield 140, 3) := by decide +kernel
theorem dX6_nearest_69 : decode cX6_nearest 69 = .ok (.invokevirtual 228, 3) := by decide +kernel
theorem dX6_nearest_72 : decode cX6_nearest 72 = .ok (.istore 9, 2) := by decide +kernel
theorem dX6_nearest_74 : decode cX6_nearest 74 = .ok (.iload_n 3, 1) := by decide +kernel
theorem dX6_nearest_75 : decode cX6_nearest 75 = .ok (.iconst (-1), 1) := by decide +kernel
theorem dX6_nearest_76 : decode cX6_nearest 76 = .ok (.if_icmp .eq 10, 3) := by decide +kernel
theorem dX6_nearest_79 : decode cX6_nearest 79 = .ok (.iload 9, 2) := by decide +kernel
theorem dX6_nearest_81 : decode cX6_nearest 81 = .ok (.iload 4, 2) := by decide +kernel
theorem dX6_nearest_83 : decode cX6_nearest 83 = .ok (.if_icmp .ge 13, 3) := by decide +kernel
theorem dX6_nearest_86 : decode cX6_nearest 86 = .ok (.aload 8, 2) := by decide +kernel
theorem dX6_nearest_88 : decode cX6_nearest 88 = .ok (.getfield 197, 3) := by decide +kernel
theorem dX6_nearest_91 : decode cX6_nearest 91 = .ok (.istore_n 3, 1) := by decide +kernel
theorem dX6_nearest_92 : decode cX6_nearest 92 = .ok (.iload 9, 2) := by decide +kernel
theorem dX6_nearest_94 : decode cX6_nearest 94 = .ok (.istore 4, 2) := by decide +kernel
theorem dX6_nearest_96 : decode cX6_nearest 96 = .ok (.iinc 7 1, 3) := by decide +kernel
theorem dX6_nearest_99 : decode cX6_nearest 99 = .ok (.goto (-74), 3) := by decide +kernel
theorem dX6_nearest_102 : decode cX6_nearest 102 = .ok (.iload_n 3, 1) := by decide +kernel
theorem dX6_nearest_103 : decode cX6_nearest 103 = .ok (.iconst (-1), 1) := by decide +kernel
theorem dX6_nearest_104 : decode cX6_nearest 104 = .ok (.if_icmp .ne 11, 3) := by decide +kernel
theorem dX6_nearest_107 : decode cX6_nearest 107 = .ok (.new 127, 3) := by decide +kernel
theorem dX6_nearest_110 : decode cX6_nearest 110 = .ok (.dup, 1) := by decide +kernel
theorem dX6_nearest_111 : decode cX6_nearest 111 = .ok (.invokespecial 129, 3) := by decide +kernel
theorem dX6_nearest_114 : decode cX6_nearest 114 = .ok (.athrow, 1) := by decide +kernel
theorem dX6_nearest_115 : decode cX6_nearest 115 = .ok (.iload_n 3, 1) := by decide +kernel
theorem dX6_nearest_116 : decode cX6_nearest 116 = .ok (.ireturn, 1) := by decide +kernel
set_option maxRecDepth 20000 in
theorem ggX6_byLight_X6_placeByLight : GoodIn wsX6_byLight wsX6_placeByLight := goodIn_r _ [10, 3, 4, 11, 12, 13, 14, 15, 16, 17, 18, 19, 20, 21, 22, 23, 24, 25, 26, 27, 28, 29, 30, 31, 32, 33, 34, 35, 36, 37, 38, 39, 40, 41, 42, 43] (by decide +kernel) (by decide +kernel)
set_option maxRecDepth 20000 in
theorem gX6_byLight_X6_placeByLight : GoodIn wsX6_byLight (wsV RX6 232 RX6 yX6_placeByLight wsX6_placeByLight) := goodIn_app (goodIn_of _ (by decide +kernel)) ggX6_byLight_X6_placeByLight
theorem dX6_byLight_0 : decode cX6_byLight 0 = .ok (.aload_n 0, 1) := by decide +kernel
theorem dX6_byLight_1 : decode cX6_byLight 1 = .ok (.getfield 23, 3) := by decide +kernel
theorem dX6_byLight_4 : decode cX6_byLight 4 = .ok (.astore_n 2, 1) := by decide +kernel
theorem dX6_byLight_5 : decode cX6_byLight 5 = .ok (.aload_n 2, 1) := by decide +kernel
theorem dX6_byLight_6 : decode cX6_byLight 6 = .ok (.arraylength, 1) := by decide +kernel
theorem dX6_byLight_7 : decode cX6_byLight 7 = .ok (.istore_n 3, 1) := by decide +kernel
theorem dX6_byLight_8 : decode cX6_byLight 8 = .ok (.iconst 0, 1) := by decide +kernel
theorem dX6_byLight_9 : decode cX6_byLight 9 = .ok (.istore 4, 2) := by decide +kernel
theorem dX6_byLight_11 : decode cX6_byLight 11 = .ok (.iload 4, 2) := by decide +kernel
theorem dX6_byLight_13 : decode cX6_byLight 13 = .ok (.iload_n 3, 1) := by decide +kernel
theorem dX6_byLight_14 : decode cX6_byLight 14 = .ok (.if_icmp .ge 46, 3) := by decide +kernel
theorem dX6_byLight_17 : decode cX6_byLight 17 = .ok (.aload_n 2, 1) := by decide +kernel
theorem dX6_byLight_18 : decode cX6_byLight 18 = .ok (.iload 4, 2) := by decide +kernel
theorem dX6_byLight_20 : decode cX6_byLight 20 = .ok (.aaload, 1) := by decide +kernel
theorem dX6_byLight_21 : decode cX6_byLight 21 = .ok (.astore 5, 2) := by decide +kernel
theorem dX6_byLight_23 : decode cX6_byLight 23 = .ok (.aload 5, 2) := by decide +kernel
theorem dX6_byLight_25 : decode cX6_byLight 25 = .ok (.ifnull 29, 3) := by decide +kernel
theorem dX6_byLight_28 : decode cX6_byLight 28 = .ok (.aload 5, 2) := by decide +kernel
theorem dX6_byLight_30 : decode cX6_byLight 30 = .ok (.getfield 147, 3) := by decide +kernel
theorem dX6_byLight_33 : decode cX6_byLight 33 = .ok (.bipush 119, 2) := by decide +kernel
theorem dX6_byLight_35 : decode cX6_byLight 35 = .ok (.if_icmp .eq 19, 3) := by decide +kernel
theorem dX6_byLight_38 : decode cX6_byLight 38 = .ok (.aload_n 0, 1) := by decide +kernel
theorem dX6_byLight_39 : decode cX6_byLight 39 = .ok (.aload 5, 2) := by decide +kernel
theorem dX6_byLight_41 : decode cX6_byLight 41 = .ok (.invokevirtual 232, 3) := by decide +kernel
theorem dX6_byLight_44 : decode cX6_byLight 44 = .ok (.iload_n 1, 1) := by decide +kernel
theorem dX6_byLight_45 : decode cX6_byLight 45 = .ok (.if_icmp .ne 9, 3) := by decide +kernel
theorem dX6_byLight_48 : decode cX6_byLight 48 = .ok (.aload 5, 2) := by decide +kernel
theorem dX6_byLight_50 : decode cX6_byLight 50 = .ok (.getfield 197, 3) := by decide +kernel
theorem dX6_byLight_53 : decode cX6_byLight 53 = .ok (.ireturn, 1) := by decide +kernel
theorem dX6_byLight_54 : decode cX6_byLight 54 = .ok (.iinc 4 1, 3) := by decide +kernel
theorem dX6_byLight_57 : decode cX6_byLight 57 = .ok (.goto (-46), 3) := by decide +kernel
theorem dX6_byLight_60 : decode cX6_byLight 60 = .ok (.new 198, 3) := by decide +kernel
theorem dX6_byLight_63 : decode cX6_byLight 63 = .ok (.dup, 1) := by decide +kernel
theorem dX6_byLight_64 : decode cX6_byLight 64 = .ok (.invokespecial 200, 3) := by decide +kernel
theorem dX6_byLight_67 : decode cX6_byLight 67 = .ok (.athrow, 1) := by decide +kernel
set_option maxRecDepth 20000 in
theorem ggX6_clock_X6_vatNumbered : GoodIn wsX6_clock wsX6_vatNumbered := goodIn_ca (goodIn_r _ [6, 7, 8, 9, 16, 17, 18, 19, 20, 21, 22, 23, 24, 25, 26] (by decide +kernel) (by decide +kernel)) (goodIn_sub (fun _ h => List.mem_cons_of_mem _ (List.mem_append_right _ h)) (by decide +kernel))
set_option maxRecDepth 20000 in
theorem gX6_clock_X6_vatNumbered : GoodIn wsX6_clock (wsV RX6 119 RX6 yX6_vatNumbered wsX6_vatNumbered) := goodIn_app (goodIn_of _ (by decide +kernel)) ggX6_clock_X6_vatNumbered
theorem dX6_clock_0 : decode cX6_clock 0 = .ok (.aload_n 0, 1) := by decide +kernel
theorem dX6_clock_1 : decode cX6_clock 1 = .ok (.iload_n 1, 1) := by decide +kernel
theorem dX6_clock_2 : decode cX6_clock 2 = .ok (.invokevirtual 119, 3) := by decide +kernel
theorem dX6_clock_5 : decode cX6_clock 5 = .ok (.getfield 137, 3) := by decide +kernel
theorem dX6_clock_8 : decode cX6_clock 8 = .ok (.ireturn, 1) := by decide +kernel
set_option maxRecDepth 20000 in
theorem ggX6_cleanings_X6_vatNumbered : GoodIn wsX6_cleanings wsX6_vatNumbered := goodIn_ca (goodIn_r _ [6, 7, 8, 9, 16, 17, 18, 19, 20, 21, 22, 23, 24, 25, 26] (by decide +kernel) (by decide +kernel)) (goodIn_sub (fun _ h => List.mem_cons_of_mem _ (List.mem_append_right _ h)) (by decide +kernel))
set_option maxRecDepth 20000 in
theorem gX6_cleanings_X6_vatNumbered : GoodIn wsX6_cleanings (wsV RX6 119 RX6 yX6_vatNumbered wsX6_vatNumbered) := goodIn_app (goodIn_of _ (by decide +kernel)) ggX6_cleanings_X6_vatNumbered
theorem dX6_cleanings_0 : decode cX6_cleanings 0 = .ok (.aload_n 0, 1) := by decide +kernel
theorem dX6_cleanings_1 : decode cX6_cleanings 1 = .ok (.iload_n 1, 1) := by decide +kernel
theorem dX6_cleanings_2 : decode cX6_cleanings 2 = .ok (.invokevirtual 119, 3) := by decide +kernel
theorem dX6_cleanings_5 : decode cX6_cleanings 5 = .ok (.getfield 158, 3) := by decide +kernel
theorem dX6_cleanings_8 : decode cX6_cleanings 8 = .ok (.ireturn, 1) := by decide +kernel
set_option maxRecDepth 20000 in
theorem ggX6_lightIn_X6_vatNumbered : GoodIn wsX6_lightIn wsX6_vatNumbered := goodIn_ca (goodIn_r _ [8, 9, 10, 11, 18, 19, 20, 21, 22, 23, 24, 25, 26, 27, 28] (by decide +kernel) (by decide +kernel)) (goodIn_sub (fun _ h => List.mem_cons_of_mem _ (List.mem_append_right _ h)) (by decide +kernel))
set_option maxRecDepth 20000 in
theorem gX6_lightIn_X6_vatNumbered : GoodIn wsX6_lightIn (wsV RX6 119 RX6 yX6_vatNumbered wsX6_vatNumbered) := goodIn_app (goodIn_of _ (by decide +kernel)) ggX6_lightIn_X6_vatNumbered
theorem dX6_lightIn_0 : decode cX6_lightIn 0 = .ok (.aload_n 0, 1) := by decide +kernel
theorem dX6_lightIn_1 : decode cX6_lightIn 1 = .ok (.iload_n 1, 1) := by decide +kernel
theorem dX6_lightIn_2 : decode cX6_lightIn 2 = .ok (.invokevirtual 119, 3) := by decide +kernel
theorem dX6_lightIn_5 : decode cX6_lightIn 5 = .ok (.getfield 134, 3) := by decide +kernel
theorem dX6_lightIn_8 : decode cX6_lightIn 8 = .ok (.istore_n 2, 1) := by decide +kernel
theorem dX6_lightIn_9 : decode cX6_lightIn 9 = .ok (.iload_n 2, 1) := by decide +kernel
theorem dX6_lightIn_10 : decode cX6_lightIn 10 = .ok (.iconst (-1), 1) := by decide +kernel
theorem dX6_lightIn_11 : decode cX6_lightIn 11 = .ok (.if_icmp .ne 11, 3) := by decide +kernel
theorem dX6_lightIn_14 : decode cX6_lightIn 14 = .ok (.new 56, 3) := by decide +kernel
theorem dX6_lightIn_17 : decode cX6_lightIn 17 = .ok (.dup, 1) := by decide +kernel
theorem dX6_lightIn_18 : decode cX6_lightIn 18 = .ok (.invokespecial 58, 3) := by decide +kernel
theorem dX6_lightIn_21 : decode cX6_lightIn 21 = .ok (.athrow, 1) := by decide +kernel
theorem dX6_lightIn_22 : decode cX6_lightIn 22 = .ok (.iload_n 2, 1) := by decide +kernel
theorem dX6_lightIn_23 : decode cX6_lightIn 23 = .ok (.ireturn, 1) := by decide +kernel
set_option maxRecDepth 20000 in
theorem ggX6_customerOf_X6_vatNumbered : GoodIn wsX6_customerOf wsX6_vatNumbered := goodIn_ca (goodIn_r _ [8, 9, 10, 11, 18, 19, 20, 21, 22, 23, 24, 25, 26, 27, 28] (by decide +kernel) (by decide +kernel)) (goodIn_sub (fun _ h => List.mem_cons_of_mem _ (List.mem_append_right _ h)) (by decide +kernel))
set_option maxRecDepth 20000 in
theorem gX6_customerOf_X6_vatNumbered : GoodIn wsX6_customerOf (wsV RX6 119 RX6 yX6_vatNumbered wsX6_vatNumbered) := goodIn_app (goodIn_of _ (by decide +kernel)) ggX6_customerOf_X6_vatNumbered
theorem dX6_customerOf_0 : decode cX6_customerOf 0 = .ok (.aload_n 0, 1) := by decide +kernel
theorem dX6_customerOf_1 : decode cX6_customerOf 1 = .ok (.iload_n 1, 1) := by decide +kernel
theorem dX6_customerOf_2 : decode cX6_customerOf 2 = .ok (.invokevirtual 119, 3) := by decide +kernel
theorem dX6_customerOf_5 : decode cX6_customerOf 5 = .ok (.getfield 167, 3) := by decide +kernel
theorem dX6_customerOf_8 : decode cX6_customerOf 8 = .ok (.istore_n 2, 1) := by decide +kernel
theorem dX6_customerOf_9 : decode cX6_customerOf 9 = .ok (.iload_n 2, 1) := by decide +kernel
theorem dX6_customerOf_10 : decode cX6_customerOf 10 = .ok (.iconst (-1), 1) := by decide +kernel
theorem dX6_customerOf_11 : decode cX6_customerOf 11 = .ok (.if_icmp .ne 11, 3) := by decide +kernel
theorem dX6_customerOf_14 : decode cX6_customerOf 14 = .ok (.new 56, 3) := by decide +kernel
theorem dX6_customerOf_17 : decode cX6_customerOf 17 = .ok (.dup, 1) := by decide +kernel
theorem dX6_customerOf_18 : decode cX6_customerOf 18 = .ok (.invokespecial 58, 3) := by decide +kernel
theorem dX6_customerOf_21 : decode cX6_customerOf 21 = .ok (.athrow, 1) := by decide +kernel
theorem dX6_customerOf_22 : decode cX6_customerOf 22 = .ok (.iload_n 2, 1) := by decide +kernel
theorem dX6_customerOf_23 : decode cX6_customerOf 23 = .ok (.ireturn, 1) := by decide +kernel
set_option maxRecDepth 20000 in
theorem ggX6_lotsOf_X6_orderNumbered : GoodIn wsX6_lotsOf wsX6_orderNumbered := goodIn_ca (goodIn_r _ [7, 8, 9, 10, 11, 12, 13, 14, 15, 16, 17, 18, 19, 20, 21] (by decide +kernel) (by decide +kernel)) (goodIn_sub (fun _ h => List.mem_cons_of_mem _ (List.mem_append_right _ h)) (by decide +kernel))
set_option maxRecDepth 20000 in
theorem gX6_lotsOf_X6_orderNumbered : GoodIn wsX6_lotsOf (wsV RX6 91 RX6 yX6_orderNumbered wsX6_orderNumbered) := goodIn_app (goodIn_of _ (by decide +kernel)) ggX6_lotsOf_X6_orderNumbered
theorem dX6_lotsOf_0 : decode cX6_lotsOf 0 = .ok (.aload_n 0, 1) := by decide +kernel
theorem dX6_lotsOf_1 : decode cX6_lotsOf 1 = .ok (.iload_n 1, 1) := by decide +kernel
theorem dX6_lotsOf_2 : decode cX6_lotsOf 2 = .ok (.invokevirtual 91, 3) := by decide +kernel
theorem dX6_lotsOf_5 : decode cX6_lotsOf 5 = .ok (.astore_n 2, 1) := by decide +kernel
theorem dX6_lotsOf_6 : decode cX6_lotsOf 6 = .ok (.iconst 0, 1) := by decide +kernel
theorem dX6_lotsOf_7 : decode cX6_lotsOf 7 = .ok (.istore_n 3, 1) := by decide +kernel
theorem dX6_lotsOf_8 : decode cX6_lotsOf 8 = .ok (.aload_n 0, 1) := by decide +kernel
theorem dX6_lotsOf_9 : decode cX6_lotsOf 9 = .ok (.getfield 23, 3) := by decide +kernel
theorem dX6_lotsOf_12 : decode cX6_lotsOf 12 = .ok (.astore 4, 2) := by decide +kernel
theorem dX6_lotsOf_14 : decode cX6_lotsOf 14 = .ok (.aload 4, 2) := by decide +kernel
theorem dX6_lotsOf_16 : decode cX6_lotsOf 16 = .ok (.arraylength, 1) := by decide +kernel
theorem dX6_lotsOf_17 : decode cX6_lotsOf 17 = .ok (.istore 5, 2) := by decide +kernel
theorem dX6_lotsOf_19 : decode cX6_lotsOf 19 = .ok (.iconst 0, 1) := by decide +kernel
theorem dX6_lotsOf_20 : decode cX6_lotsOf 20 = .ok (.istore 6, 2) := by decide +kernel
theorem dX6_lotsOf_22 : decode cX6_lotsOf 22 = .ok (.iload 6, 2) := by decide +kernel
theorem dX6_lotsOf_24 : decode cX6_lotsOf 24 = .ok (.iload 5, 2) := by decide +kernel
theorem dX6_lotsOf_26 : decode cX6_lotsOf 26 = .ok (.if_icmp .ge 33, 3) := by decide +kernel
theorem dX6_lotsOf_29 : decode cX6_lotsOf 29 = .ok (.aload 4, 2) := by decide +kernel
theorem dX6_lotsOf_31 : decode cX6_lotsOf 31 = .ok (.iload 6, 2) := by decide +kernel
theorem dX6_lotsOf_33 : decode cX6_lotsOf 33 = .ok (.aaload, 1) := by decide +kernel
theorem dX6_lotsOf_34 : decode cX6_lotsOf 34 = .ok (.astore 7, 2) := by decide +kernel
theorem dX6_lotsOf_36 : decode cX6_lotsOf 36 = .ok (.aload 7, 2) := by decide +kernel
theorem dX6_lotsOf_38 : decode cX6_lotsOf 38 = .ok (.ifnull 15, 3) := by decide +kernel
theorem dX6_lotsOf_41 : decode cX6_lotsOf 41 = .ok (.aload 7, 2) := by decide +kernel
theorem dX6_lotsOf_43 : decode cX6_lotsOf 43 = .ok (.getfield 236, 3) := by decide +kernel
theorem dX6_lotsOf_46 : decode cX6_lotsOf 46 = .ok (.aload_n 2, 1) := by decide +kernel
theorem dX6_lotsOf_47 : decode cX6_lotsOf 47 = .ok (.if_acmp .ne 6, 3) := by decide +kernel
theorem dX6_lotsOf_50 : decode cX6_lotsOf 50 = .ok (.iinc 3 1, 3) := by decide +kernel
theorem dX6_lotsOf_53 : decode cX6_lotsOf 53 = .ok (.iinc 6 1, 3) := by decide +kernel
theorem dX6_lotsOf_56 : decode cX6_lotsOf 56 = .ok (.goto (-34), 3) := by decide +kernel
theorem dX6_lotsOf_59 : decode cX6_lotsOf 59 = .ok (.iload_n 3, 1) := by decide +kernel
theorem dX6_lotsOf_60 : decode cX6_lotsOf 60 = .ok (.ireturn, 1) := by decide +kernel
set_option maxRecDepth 20000 in
theorem ggX6_spread_X6_orderNumbered : GoodIn wsX6_spread wsX6_orderNumbered := goodIn_ca (goodIn_r _ [10, 11, 12, 13, 38, 39, 40, 41, 42, 43, 44, 45, 46, 47, 48] (by decide +kernel) (by decide +kernel)) (goodIn_sub (fun _ h => List.mem_cons_of_mem _ (List.mem_append_right _ h)) (by decide +kernel))
set_option maxRecDepth 20000 in
theorem gX6_spread_X6_orderNumbered : GoodIn wsX6_spread (wsV RX6 91 RX6 yX6_orderNumbered wsX6_orderNumbered) := goodIn_app (goodIn_of _ (by decide +kernel)) ggX6_spread_X6_orderNumbered
set_option maxRecDepth 20000 in
theorem ggX6_spread_X0_isPassedOf : GoodIn wsX6_spread wsX0_isPassedOf := goodIn_r _ [18, 19, 20, 49, 50, 51, 52, 53, 54, 55, 56, 57] (by decide +kernel) (by decide +kernel)
set_option maxRecDepth 20000 in
theorem gX6_spread_X0_isPassedOf : GoodIn wsX6_spread (wsV RX6 240 RX0 yX0_isPassedOf wsX0_isPassedOf) := goodIn_app (goodIn_of _ (by decide +kernel)) ggX6_spread_X0_isPassedOf
set_option maxRecDepth 20000 in
theorem ggX6_spread_X6_greatestDistanceFromPassed : GoodIn wsX6_spread wsX6_greatestDistanceFromPassed := goodIn_r _ [24, 1, 25, 26, 2, 3, 4, 5, 14, 15, 16, 17, 18, 19, 20, 27, 28, 29, 30, 31, 32, 33, 34, 35, 36, 37, 38, 39, 40, 41, 42, 43, 44, 45, 46, 47, 48, 49, 50, 51, 52, 53, 54, 55, 56, 57, 58, 59, 60] (by decide +kernel) (by decide +kernel)
set_option maxRecDepth 20000 in
theorem gX6_spread_X6_greatestDistanceFromPassed : GoodIn wsX6_spread (wsV RX6 244 RX6 yX6_greatestDistanceFromPassed wsX6_greatestDistanceFromPassed) := goodIn_app (goodIn_of _ (by decide +kernel)) ggX6_spread_X6_greatestDistanceFromPassed
theorem dX6_spread_0 : decode cX6_spread 0 = .ok (.aload_n 0, 1) := by decide +kernel
theorem dX6_spread_1 : decode cX6_spread 1 = .ok (.iload_n 1, 1) := by decide +kernel
theorem dX6_spread_2 : decode cX6_spread 2 = .ok (.invokevirtual 91, 3) := by decide +kernel
theorem dX6_spread_5 : decode cX6_spread 5 = .ok (.astore_n 2, 1) := by decide +kernel
theorem dX6_spread_6 : decode cX6_spread 6 = .ok (.iconst 0, 1) := by decide +kernel
theorem dX6_spread_7 : decode cX6_spread 7 = .ok (.istore_n 3, 1) := by decide +kernel
theorem dX6_spread_8 : decode cX6_spread 8 = .ok (.aload_n 0, 1) := by decide +kernel
theorem dX6_spread_9 : decode cX6_spread 9 = .ok (.getfield 23, 3) := by decide +kernel
theorem dX6_spread_12 : decode cX6_spread 12 = .ok (.astore 4, 2) := by decide +kernel
theorem dX6_spread_14 : decode cX6_spread 14 = .ok (.aload 4, 2) := by decide +kernel
theorem dX6_spread_16 : decode cX6_spread 16 = .ok (.arraylength, 1) := by decide +kernel
theorem dX6_spread_17 : decode cX6_spread 17 = .ok (.istore 5, 2) := by decide +kernel
theorem dX6_spread_19 : decode cX6_spread 19 = .ok (.iconst 0, 1) := by decide +kernel
theorem dX6_spread_20 : decode cX6_spread 20 = .ok (.istore 6, 2) := by decide +kernel
theorem dX6_spread_22 : decode cX6_spread 22 = .ok (.iload 6, 2) := by decide +kernel
theorem dX6_spread_24 : decode cX6_spread 24 = .ok (.iload 5, 2) := by decide +kernel
theorem dX6_spread_26 : decode cX6_spread 26 = .ok (.if_icmp .ge 41, 3) := by decide +kernel
theorem dX6_spread_29 : decode cX6_spread 29 = .ok (.aload 4, 2) := by decide +kernel
theorem dX6_spread_31 : decode cX6_spread 31 = .ok (.iload 6, 2) := by decide +kernel
theorem dX6_spread_33 : decode cX6_spread 33 = .ok (.aaload, 1) := by decide +kernel
theorem dX6_spread_34 : decode cX6_spread 34 = .ok (.astore 7, 2) := by decide +kernel
theorem dX6_spread_36 : decode cX6_spread 36 = .ok (.aload 7, 2) := by decide +kernel
theorem dX6_spread_38 : decode cX6_spread 38 = .ok (.ifnull 23, 3) := by decide +kernel
theorem dX6_spread_41 : decode cX6_spread 41 = .ok (.aload 7, 2) := by decide +kernel
theorem dX6_spread_43 : decode cX6_spread 43 = .ok (.aload_n 2, 1) := by decide +kernel
theorem dX6_spread_44 : decode cX6_spread 44 = .ok (.invokevirtual 240, 3) := by decide +kernel
theorem dX6_spread_47 : decode cX6_spread 47 = .ok (.ifCond .eq 14, 3) := by decide +kernel
theorem dX6_spread_50 : decode cX6_spread 50 = .ok (.iload_n 3, 1) := by decide +kernel
theorem dX6_spread_51 : decode cX6_spread 51 = .ok (.aload_n 0, 1) := by decide +kernel
theorem dX6_spread_52 : decode cX6_spread 52 = .ok (.aload 7, 2) := by decide +kernel
theorem dX6_spread_54 : decode cX6_spread 54 = .ok (.invokevirtual 244, 3) := by decide +kernel
theorem dX6_spread_57 : decode cX6_spread 57 = .ok (.invokestatic 247, 3) := by decide +kernel
theorem dX6_spread_60 : decode cX6_spread 60 = .ok (.istore_n 3, 1) := by decide +kernel
theorem dX6_spread_61 : decode cX6_spread 61 = .ok (.iinc 6 1, 3) := by decide +kernel
theorem dX6_spread_64 : decode cX6_spread 64 = .ok (.goto (-42), 3) := by decide +kernel
theorem dX6_spread_67 : decode cX6_spread 67 = .ok (.iload_n 3, 1) := by decide +kernel
theorem dX6_spread_68 : decode cX6_spread 68 = .ok (.ireturn, 1) := by decide +kernel
set_option maxRecDepth 20000 in
theorem ggX6_lateBy_X6_orderNumbered : GoodIn wsX6_lateBy wsX6_orderNumbered := goodIn_ca (goodIn_r _ [5, 6, 7, 8, 22, 23, 24, 25, 26, 27, 28, 29, 30, 31, 32] (by decide +kernel) (by decide +kernel)) (goodIn_sub (fun _ h => List.mem_cons_of_mem _ (List.mem_append_right _ h)) (by decide +kernel))
set_option maxRecDepth 20000 in
theorem gX6_lateBy_X6_orderNumbered : GoodIn wsX6_lateBy (wsV RX6 91 RX6 yX6_orderNumbered wsX6_orderNumbered) := goodIn_app (goodIn_of _ (by decide +kernel)) ggX6_lateBy_X6_orderNumbered
set_option maxRecDepth 20000 in
theorem ggX6_lateBy_X6_daysLate : GoodIn wsX6_lateBy wsX6_daysLate := goodIn_r _ [12, 13, 14, 15, 16, 17, 18, 19, 20, 21, 22, 23, 24, 25, 26, 27, 28, 29, 30, 31, 32, 33, 34, 35, 36, 37, 38, 39, 40, 41, 42, 43, 44, 45, 46] (by decide +kernel) (by decide +kernel)
set_option maxRecDepth 20000 in
theorem gX6_lateBy_X6_daysLate : GoodIn wsX6_lateBy (wsV RX6 253 RX6 yX6_daysLate wsX6_daysLate) := goodIn_app (goodIn_of _ (by decide +kernel)) ggX6_lateBy_X6_daysLate
theorem dX6_lateBy_0 : decode cX6_lateBy 0 = .ok (.aload_n 0, 1) := by decide +kernel
theorem dX6_lateBy_1 : decode cX6_lateBy 1 = .ok (.aload_n 0, 1) := by decide +kernel
theorem dX6_lateBy_2 : decode cX6_lateBy 2 = .ok (.iload_n 1, 1) := by decide +kernel
theorem dX6_lateBy_3 : decode cX6_lateBy 3 = .ok (.invokevirtual 91, 3) := by decide +kernel
theorem dX6_lateBy_6 : decode cX6_lateBy 6 = .ok (.invokevirtual 253, 3) := by decide +kernel
theorem dX6_lateBy_9 : decode cX6_lateBy 9 = .ok (.ireturn, 1) := by decide +kernel
set_option maxRecDepth 20000 in
theorem ggX6_due_X6_orderNumbered : GoodIn wsX6_due wsX6_orderNumbered := goodIn_ca (goodIn_r _ [5, 6, 7, 8, 35, 36, 37, 38, 39, 40, 41, 42, 43, 44, 45] (by decide +kernel) (by decide +kernel)) (goodIn_sub (fun _ h => List.mem_cons_of_mem _ (List.mem_append_right _ h)) (by decide +kernel))
set_option maxRecDepth 20000 in
theorem gX6_due_X6_orderNumbered : GoodIn wsX6_due (wsV RX6 91 RX6 yX6_orderNumbered wsX6_orderNumbered) := goodIn_app (goodIn_of _ (by decide +kernel)) ggX6_due_X6_orderNumbered
set_option maxRecDepth 20000 in
theorem ggX6_due_X6_amountDue : GoodIn wsX6_due wsX6_amountDue := goodIn_r _ [12, 13, 14, 15, 16, 17, 18, 19, 20, 21, 22, 23, 24, 25, 26, 27, 28, 29, 4, 30, 31, 32, 33, 34, 35, 36, 37, 38, 39, 40, 41, 42, 43, 44, 45, 46, 47, 48, 49, 50, 51, 52, 53, 54, 55, 56, 57, 58, 59] (by decide +kernel) (by decide +kernel)
set_option maxRecDepth 20000 in
theorem gX6_due_X6_amountDue : GoodIn wsX6_due (wsV RX6 257 RX6 yX6_amountDue wsX6_amountDue) := goodIn_app (goodIn_of _ (by decide +kernel)) ggX6_due_X6_amountDue
theorem dX6_due_0 : decode cX6_due 0 = .ok (.aload_n 0, 1) := by decide +kernel
theorem dX6_due_1 : decode cX6_due 1 = .ok (.aload_n 0, 1) := by decide +kernel
theorem dX6_due_2 : decode cX6_due 2 = .ok (.iload_n 1, 1) := by decide +kernel
theorem dX6_due_3 : decode cX6_due 3 = .ok (.invokevirtual 91, 3) := by decide +kernel
theorem dX6_due_6 : decode cX6_due 6 = .ok (.invokevirtual 257, 3) := by decide +kernel
theorem dX6_due_9 : decode cX6_due 9 = .ok (.ireturn, 1) := by decide +kernel
set_option maxRecDepth 20000 in
theorem ggX6_dues_X6_checkCustomer : GoodIn wsX6_dues wsX6_checkCustomer := goodIn_ca (goodIn_r _ [6, 7, 8, 5, 9, 10, 11] (by decide +kernel) (by decide +kernel)) (goodIn_sub (fun _ h => List.mem_cons_of_mem _ (List.mem_append_right _ h)) (by decide +kernel))
set_option maxRecDepth 20000 in
theorem gX6_dues_X6_checkCustomer : GoodIn wsX6_dues (va_wsS RX6 82 yX6_checkCustomer wsX6_checkCustomer) := goodIn_app (goodIn_of _ (by decide +kernel)) ggX6_dues_X6_checkCustomer
set_option maxRecDepth 20000 in
theorem ggX6_dues_X6_amountDue : GoodIn wsX6_dues wsX6_amountDue := goodIn_r _ [15, 16, 17, 18, 19, 20, 21, 22, 23, 24, 25, 26, 27, 28, 29, 30, 31, 32, 5, 33, 34, 35, 36, 37, 38, 39, 40, 41, 42, 43, 44, 45, 46, 47, 48, 54, 55, 56, 57, 58, 59, 60, 61, 62, 49, 50, 51, 52, 53] (by decide +kernel) (by decide +kernel)
set_option maxRecDepth 20000 in
theorem gX6_dues_X6_amountDue : GoodIn wsX6_dues (wsV RX6 257 RX6 yX6_amountDue wsX6_amountDue) := goodIn_app (goodIn_of _ (by decide +kernel)) ggX6_dues_X6_amountDue
theorem dX6_dues_0 : decode cX6_dues 0 = .ok (.iload_n 1, 1) := by decide +kernel
theorem dX6_dues_1 : decode cX6_dues 1 = .ok (.invokestatic 82, 3) := by decide +kernel
theorem dX6_dues_4 : decode cX6_dues 4 = .ok (.lconst 0, 1) := by decide +kernel
theorem dX6_dues_5 : decode cX6_dues 5 = .ok (.lstore_n 2, 1) := by decide +kernel
theorem dX6_dues_6 : decode cX6_dues 6 = .ok (.aload_n 0, 1) := by decide +kernel
theorem dX6_dues_7 : decode cX6_dues 7 = .ok (.getfield 17, 3) := by decide +kernel
theorem dX6_dues_10 : decode cX6_dues 10 = .ok (.astore 4, 2) := by decide +kernel
theorem dX6_dues_12 : decode cX6_dues 12 = .ok (.aload 4, 2) := by decide +kernel
theorem dX6_dues_14 : decode cX6_dues 14 = .ok (.arraylength, 1) := by decide +kernel
theorem dX6_dues_15 : decode cX6_dues 15 = .ok (.istore 5, 2) := by decide +kernel
theorem dX6_dues_17 : decode cX6_dues 17 = .ok (.iconst 0, 1) := by decide +kernel
theorem dX6_dues_18 : decode cX6_dues 18 = .ok (.istore 6, 2) := by decide +kernel
theorem dX6_dues_20 : decode cX6_dues 20 = .ok (.iload 6, 2) := by decide +kernel
theorem dX6_dues_22 : decode cX6_dues 22 = .ok (.iload 5, 2) := by decide +kernel
theorem dX6_dues_24 : decode cX6_dues 24 = .ok (.if_icmp .ge 40, 3) := by decide +kernel
theorem dX6_dues_27 : decode cX6_dues 27 = .ok (.aload 4, 2) := by decide +kernel
theorem dX6_dues_29 : decode cX6_dues 29 = .ok (.iload 6, 2) := by decide +kernel
theorem dX6_dues_31 : decode cX6_dues 31 = .ok (.aaload, 1) := by decide +kernel
theorem dX6_dues_32 : decode cX6_dues 32 = .ok (.astore 7, 2) := by decide +kernel
theorem dX6_dues_34 : decode cX6_dues 34 = .ok (.aload 7, 2) := by decide +kernel
theorem dX6_dues_36 : decode cX6_dues 36 = .ok (.ifnull 22, 3) := by decide +kernel
theorem dX6_dues_39 : decode cX6_dues 39 = .ok (.aload 7, 2) := by decide +kernel
theorem dX6_dues_41 : decode cX6_dues 41 = .ok (.getfield 260, 3) := by decide +kernel
theorem dX6_dues_44 : decode cX6_dues 44 = .ok (.iload_n 1, 1) := by decide +kernel
theorem dX6_dues_45 : decode cX6_dues 45 = .ok (.if_icmp .ne 13, 3) := by decide +kernel
theorem dX6_dues_48 : decode cX6_dues 48 = .ok (.lload_n 2, 1) := by decide +kernel
theorem dX6_dues_49 : decode cX6_dues 49 = .ok (.aload_n 0, 1) := by decide +kernel
theorem dX6_dues_50 : decode cX6_dues 50 = .ok (.aload 7, 2) := by decide +kernel
theorem dX6_dues_52 : decode cX6_dues 52 = .ok (.invokevirtual 257, 3) := by decide +kernel
theorem dX6_dues_55 : decode cX6_dues 55 = .ok (.i2l, 1) := by decide +kernel
theorem dX6_dues_56 : decode cX6_dues 56 = .ok (.ladd, 1) := by decide +kernel
theorem dX6_dues_57 : decode cX6_dues 57 = .ok (.lstore_n 2, 1) := by decide +kernel
theorem dX6_dues_58 : decode cX6_dues 58 = .ok (.iinc 6 1, 3) := by decide +kernel
theorem dX6_dues_61 : decode cX6_dues 61 = .ok (.goto (-41), 3) := by decide +kernel
theorem dX6_dues_64 : decode cX6_dues 64 = .ok (.lload_n 2, 1) := by decide +kernel
theorem dX6_dues_65 : decode cX6_dues 65 = .ok (.lreturn, 1) := by decide +kernel
set_option maxRecDepth 20000 in
theorem ggX6_used_X6_checkDye : GoodIn wsX6_used wsX6_checkDye := goodIn_ca (goodIn_r _ [5, 6, 7, 4, 8, 9, 10] (by decide +kernel) (by decide +kernel)) (goodIn_sub (fun _ h => List.mem_cons_of_mem _ (List.mem_append_right _ h)) (by decide +kernel))
set_option maxRecDepth 20000 in
theorem gX6_used_X6_checkDye : GoodIn wsX6_used (va_wsS RX6 70 yX6_checkDye wsX6_checkDye) := goodIn_app (goodIn_of _ (by decide +kernel)) ggX6_used_X6_checkDye
theorem dX6_used_0 : decode cX6_used 0 = .ok (.iload_n 1, 1) := by decide +kernel
theorem dX6_used_1 : decode cX6_used 1 = .ok (.invokestatic 70, 3) := by decide +kernel
theorem dX6_used_4 : decode cX6_used 4 = .ok (.aload_n 0, 1) := by decide +kernel
theorem dX6_used_5 : decode cX6_used 5 = .ok (.getfield 37, 3) := by decide +kernel
theorem dX6_used_8 : decode cX6_used 8 = .ok (.iload_n 1, 1) := by decide +kernel
theorem dX6_used_9 : decode cX6_used 9 = .ok (.laload, 1) := by decide +kernel
theorem dX6_used_10 : decode cX6_used 10 = .ok (.lreturn, 1) := by decide +kernel
set_option maxRecDepth 20000 in
theorem ggX6_passedShare_X6_lotsInState : GoodIn wsX6_passedShare wsX6_lotsInState := goodIn_r _ [7, 8, 9, 10, 11, 12, 13, 14, 15, 16, 17, 18, 19, 20, 21, 22, 23, 24, 25, 26, 27, 28, 29] (by decide +kernel) (by decide +kernel)
set_option maxRecDepth 20000 in
theorem gX6_passedShare_X6_lotsInState : GoodIn wsX6_passedShare (wsV RX6 180 RX6 yX6_lotsInState wsX6_lotsInState) := goodIn_app (goodIn_of _ (by decide +kernel)) ggX6_passedShare_X6_lotsInState
theorem dX6_passedShare_0 : decode cX6_passedShare 0 = .ok (.aload_n 0, 1) := by decide +kernel
theorem dX6_passedShare_1 : decode cX6_passedShare 1 = .ok (.bipush 112, 2) := by decide +kernel
theorem dX6_passedShare_3 : decode cX6_passedShare 3 = .ok (.invokevirtual 180, 3) := by decide +kernel
theorem dX6_passedShare_6 : decode cX6_passedShare 6 = .ok (.istore_n 1, 1) := by decide +kernel
theorem dX6_passedShare_7 : decode cX6_passedShare 7 = .ok (.iload_n 1, 1) := by decide +kernel
theorem dX6_passedShare_8 : decode cX6_passedShare 8 = .ok (.aload_n 0, 1) := by decide +kernel
theorem dX6_passedShare_9 : decode cX6_passedShare 9 = .ok (.bipush 120, 2) := by decide +kernel
theorem dX6_passedShare_11 : decode cX6_passedShare 11 = .ok (.invokevirtual 180, 3) := by decide +kernel
theorem dX6_passedShare_14 : decode cX6_passedShare 14 = .ok (.iadd, 1) := by decide +kernel
theorem dX6_passedShare_15 : decode cX6_passedShare 15 = .ok (.istore_n 2, 1) := by decide +kernel
theorem dX6_passedShare_16 : decode cX6_passedShare 16 = .ok (.iload_n 2, 1) := by decide +kernel
theorem dX6_passedShare_17 : decode cX6_passedShare 17 = .ok (.ifCond .ne 11, 3) := by decide +kernel
theorem dX6_passedShare_20 : decode cX6_passedShare 20 = .ok (.new 263, 3) := by decide +kernel
theorem dX6_passedShare_23 : decode cX6_passedShare 23 = .ok (.dup, 1) := by decide +kernel
theorem dX6_passedShare_24 : decode cX6_passedShare 24 = .ok (.invokespecial 265, 3) := by decide +kernel
theorem dX6_passedShare_27 : decode cX6_passedShare 27 = .ok (.athrow, 1) := by decide +kernel
theorem dX6_passedShare_28 : decode cX6_passedShare 28 = .ok (.iload_n 1, 1) := by decide +kernel
theorem dX6_passedShare_29 : decode cX6_passedShare 29 = .ok (.i2f, 1) := by decide +kernel
theorem dX6_passedShare_30 : decode cX6_passedShare 30 = .ok (.iload_n 2, 1) := by decide +kernel
theorem dX6_passedShare_31 : decode cX6_passedShare 31 = .ok (.i2f, 1) := by decide +kernel
theorem dX6_passedShare_32 : decode cX6_passedShare 32 = .ok (.fdiv, 1) := by decide +kernel
theorem dX6_passedShare_33 : decode cX6_passedShare 33 = .ok (.freturn, 1) := by decide +kernel
set_option maxRecDepth 20000 in
theorem ggX6_meanOff_X0_distanceFromRecipe : GoodIn wsX6_meanOff wsX0_distanceFromRecipe := goodIn_r _ [9, 10, 11, 12, 13, 14, 15, 16, 17, 18, 19, 20, 21, 22, 23, 24, 25, 37, 38, 39, 40, 41, 42, 43, 44, 45, 46, 47, 48, 49, 50, 51, 52, 53, 54, 55] (by decide +kernel) (by decide +kernel)
set_option maxRecDepth 20000 in
theorem gX6_meanOff_X0_distanceFromRecipe : GoodIn wsX6_meanOff (wsV RX6 225 RX0 yX0_distanceFromRecipe wsX0_distanceFromRecipe) := goodIn_app (goodIn_of _ (by decide +kernel)) ggX6_meanOff_X0_distanceFromRecipe
theorem dX6_meanOff_0 : decode cX6_meanOff 0 = .ok (.iconst 0, 1) := by decide +kernel
theorem dX6_meanOff_1 : decode cX6_meanOff 1 = .ok (.istore_n 1, 1) := by decide +kernel
theorem dX6_meanOff_2 : decode cX6_meanOff 2 = .ok (.iconst 0, 1) := by decide +kernel
theorem dX6_meanOff_3 : decode cX6_meanOff 3 = .ok (.istore_n 2, 1) := by decide +kernel
theorem dX6_meanOff_4 : decode cX6_meanOff 4 = .ok (.aload_n 0, 1) := by decide +kernel
theorem dX6_meanOff_5 : decode cX6_meanOff 5 = .ok (.getfield 23, 3) := by decide +kernel
theorem dX6_meanOff_8 : decode cX6_meanOff 8 = .ok (.astore_n 3, 1) := by decide +kernel
theorem dX6_meanOff_9 : decode cX6_meanOff 9 = .ok (.aload_n 3, 1) := by decide +kernel
theorem dX6_meanOff_10 : decode cX6_meanOff 10 = .ok (.arraylength, 1) := by decide +kernel
theorem dX6_meanOff_11 : decode cX6_meanOff 11 = .ok (.istore 4, 2) := by decide +kernel
theorem dX6_meanOff_13 : decode cX6_meanOff 13 = .ok (.iconst 0, 1) := by decide +kernel
theorem dX6_meanOff_14 : decode cX6_meanOff 14 = .ok (.istore 5, 2) := by decide +kernel
theorem dX6_meanOff_16 : decode cX6_meanOff 16 = .ok (.iload 5, 2) := by decide +kernel
theorem dX6_meanOff_18 : decode cX6_meanOff 18 = .ok (.iload 4, 2) := by decide +kernel
theorem dX6_meanOff_20 : decode cX6_meanOff 20 = .ok (.if_icmp .ge 41, 3) := by decide +kernel
theorem dX6_meanOff_23 : decode cX6_meanOff 23 = .ok (.aload_n 3, 1) := by decide +kernel
theorem dX6_meanOff_24 : decode cX6_meanOff 24 = .ok (.iload 5, 2) := by decide +kernel
theorem dX6_meanOff_26 : decode cX6_meanOff 26 = .ok (.aaload, 1) := by decide +kernel
theorem dX6_meanOff_27 : decode cX6_meanOff 27 = .ok (.astore 6, 2) := by decide +kernel
theorem dX6_meanOff_29 : decode cX6_meanOff 29 = .ok (.aload 6, 2) := by decide +kernel
theorem dX6_meanOff_31 : decode cX6_meanOff 31 = .ok (.ifnull 24, 3) := by decide +kernel
theorem dX6_meanOff_34 : decode cX6_meanOff 34 = .ok (.aload 6, 2) := by decide +kernel
theorem dX6_meanOff_36 : decode cX6_meanOff 36 = .ok (.getfield 147, 3) := by decide +kernel
theorem dX6_meanOff_39 : decode cX6_meanOff 39 = .ok (.bipush 119, 2) := by decide +kernel
theorem dX6_meanOff_41 : decode cX6_meanOff 41 = .ok (.if_icmp .eq 14, 3) := by decide +kernel
theorem dX6_meanOff_44 : decode cX6_meanOff 44 = .ok (.iload_n 1, 1) := by decide +kernel
theorem dX6_meanOff_45 : decode cX6_meanOff 45 = .ok (.aload 6, 2) := by decide +kernel
theorem dX6_meanOff_47 : decode cX6_meanOff 47 = .ok (.invokevirtual 225, 3) := by decide +kernel
theorem dX6_meanOff_50 : decode cX6_meanOff 50 = .ok (.iadd, 1) := by decide +kernel
theorem dX6_meanOff_51 : decode cX6_meanOff 51 = .ok (.istore_n 1, 1) := by decide +kernel
theorem dX6_meanOff_52 : decode cX6_meanOff 52 = .ok (.iinc 2 1, 3) := by decide +kernel
theorem dX6_meanOff_55 : decode cX6_meanOff 55 = .ok (.iinc 5 1, 3) := by decide +kernel
theorem dX6_meanOff_58 : decode cX6_meanOff 58 = .ok (.goto (-42), 3) := by decide +kernel
theorem dX6_meanOff_61 : decode cX6_meanOff 61 = .ok (.iload_n 2, 1) := by decide +kernel
theorem dX6_meanOff_62 : decode cX6_meanOff 62 = .ok (.ifCond .ne 11, 3) := by decide +kernel
theorem dX6_meanOff_65 : decode cX6_meanOff 65 = .ok (.new 263, 3) := by decide +kernel
theorem dX6_meanOff_68 : decode cX6_meanOff 68 = .ok (.dup, 1) := by decide +kernel
theorem dX6_meanOff_69 : decode cX6_meanOff 69 = .ok (.invokespecial 265, 3) := by decide +kernel
theorem dX6_meanOff_72 : decode cX6_meanOff 72 = .ok (.athrow, 1) := by decide +kernel
theorem dX6_meanOff_73 : decode cX6_meanOff 73 = .ok (.iload_n 1, 1) := by decide +kernel
theorem dX6_meanOff_74 : decode cX6_meanOff 74 = .ok (.i2d, 1) := by decide +kernel
theorem dX6_meanOff_75 : decode cX6_meanOff 75 = .ok (.iload_n 2, 1) := by decide +kernel
theorem dX6_meanOff_76 : decode cX6_meanOff 76 = .ok (.i2d, 1) := by decide +kernel
theorem dX6_meanOff_77 : decode cX6_meanOff 77 = .ok (.ddiv, 1) := by decide +kernel
theorem dX6_meanOff_78 : decode cX6_meanOff 78 = .ok (.dreturn, 1) := by decide +kernel
theorem dX6_checkRange_0 : decode cX6_checkRange 0 = .ok (.iload_n 0, 1) := by decide +kernel
theorem dX6_checkRange_1 : decode cX6_checkRange 1 = .ok (.iload_n 1, 1) := by decide +kernel
theorem dX6_checkRange_2 : decode cX6_checkRange 2 = .ok (.if_icmp .lt 8, 3) := by decide +kernel
theorem dX6_checkRange_5 : decode cX6_checkRange 5 = .ok (.iload_n 0, 1) := by decide +kernel
theorem dX6_checkRange_6 : decode cX6_checkRange 6 = .ok (.iload_n 2, 1) := by decide +kernel
theorem dX6_checkRange_7 : decode cX6_checkRange 7 = .ok (.if_icmp .le 11, 3) := by decide +kernel
theorem dX6_checkRange_10 : decode cX6_checkRange 10 = .ok (.new 266, 3) := by decide +kernel
theorem dX6_checkRange_13 : decode cX6_checkRange 13 = .ok (.dup, 1) := by decide +kernel
theorem dX6_checkRange_14 : decode cX6_checkRange 14 = .ok (.invokespecial 268, 3) := by decide +kernel
theorem dX6_checkRange_17 : decode cX6_checkRange 17 = .ok (.athrow, 1) := by decide +kernel
theorem dX6_checkRange_18 : decode cX6_checkRange 18 = .ok (.return_, 1) := by decide +kernel
set_option maxRecDepth 20000 in
theorem ggX6_checkShade_X6_checkRange : GoodIn wsX6_checkShade wsX6_checkRange := goodIn_ca (goodIn_r _ [4, 5, 6] (by decide +kernel) (by decide +kernel)) (goodIn_sub (fun _ h => List.mem_cons_of_mem _ (List.mem_append_right _ h)) (by decide +kernel))
set_option maxRecDepth 20000 in
theorem gX6_checkShade_X6_checkRange : GoodIn wsX6_checkShade (va_wsS RX6 74 yX6_checkRange wsX6_checkRange) := goodIn_app (goodIn_of _ (by decide +kernel)) ggX6_checkShade_X6_checkRange
theorem dX6_checkShade_0 : decode cX6_checkShade 0 = .ok (.iload_n 0, 1) := by decide +kernel
theorem dX6_checkShade_1 : decode cX6_checkShade 1 = .ok (.iconst 0, 1) := by decide +kernel
theorem dX6_checkShade_2 : decode cX6_checkShade 2 = .ok (.bipush 20, 2) := by decide +kernel
theorem dX6_checkShade_4 : decode cX6_checkShade 4 = .ok (.invokestatic 74, 3) := by decide +kernel
theorem dX6_checkShade_7 : decode cX6_checkShade 7 = .ok (.iload_n 1, 1) := by decide +kernel
theorem dX6_checkShade_8 : decode cX6_checkShade 8 = .ok (.iconst 0, 1) := by decide +kernel
theorem dX6_checkShade_9 : decode cX6_checkShade 9 = .ok (.bipush 20, 2) := by decide +kernel
theorem dX6_checkShade_11 : decode cX6_checkShade 11 = .ok (.invokestatic 74, 3) := by decide +kernel
theorem dX6_checkShade_14 : decode cX6_checkShade 14 = .ok (.iload_n 2, 1) := by decide +kernel
theorem dX6_checkShade_15 : decode cX6_checkShade 15 = .ok (.iconst 0, 1) := by decide +kernel
theorem dX6_checkShade_16 : decode cX6_checkShade 16 = .ok (.bipush 20, 2) := by decide +kernel
theorem dX6_checkShade_18 : decode cX6_checkShade 18 = .ok (.invokestatic 74, 3) := by decide +kernel
theorem dX6_checkShade_21 : decode cX6_checkShade 21 = .ok (.return_, 1) := by decide +kernel
set_option maxRecDepth 20000 in
theorem ggX6_checkDye_X6_checkRange : GoodIn wsX6_checkDye wsX6_checkRange := goodIn_ca (goodIn_r _ [4, 5, 6] (by decide +kernel) (by decide +kernel)) (goodIn_sub (fun _ h => List.mem_cons_of_mem _ (List.mem_append_right _ h)) (by decide +kernel))
set_option maxRecDepth 20000 in
theorem gX6_checkDye_X6_checkRange : GoodIn wsX6_checkDye (va_wsS RX6 74 yX6_checkRange wsX6_checkRange) := goodIn_app (goodIn_of _ (by decide +kernel)) ggX6_checkDye_X6_checkRange
theorem dX6_checkDye_0 : decode cX6_checkDye 0 = .ok (.iload_n 0, 1) := by decide +kernel
theorem dX6_checkDye_1 : decode cX6_checkDye 1 = .ok (.iconst 0, 1) := by decide +kernel
theorem dX6_checkDye_2 : decode cX6_checkDye 2 = .ok (.iconst 2, 1) := by decide +kernel
theorem dX6_checkDye_3 : decode cX6_checkDye 3 = .ok (.invokestatic 74, 3) := by decide +kernel
theorem dX6_checkDye_6 : decode cX6_checkDye 6 = .ok (.return_, 1) := by decide +kernel
set_option maxRecDepth 20000 in
theorem ggX6_checkCustomer_X6_checkRange : GoodIn wsX6_checkCustomer wsX6_checkRange := goodIn_ca (goodIn_r _ [4, 5, 6] (by decide +kernel) (by decide +kernel)) (goodIn_sub (fun _ h => List.mem_cons_of_mem _ (List.mem_append_right _ h)) (by decide +kernel))
set_option maxRecDepth 20000 in
theorem gX6_checkCustomer_X6_checkRange : GoodIn wsX6_checkCustomer (va_wsS RX6 74 yX6_checkRange wsX6_checkRange) := goodIn_app (goodIn_of _ (by decide +kernel)) ggX6_checkCustomer_X6_checkRange
theorem dX6_checkCustomer_0 : decode cX6_checkCustomer 0 = .ok (.iload_n 0, 1) := by decide +kernel
theorem dX6_checkCustomer_1 : decode cX6_checkCustomer 1 = .ok (.iconst 0, 1) := by decide +kernel
theorem dX6_checkCustomer_2 : decode cX6_checkCustomer 2 = .ok (.iconst 3, 1) := by decide +kernel
theorem dX6_checkCustomer_3 : decode cX6_checkCustomer 3 = .ok (.invokestatic 74, 3) := by decide +kernel
theorem dX6_checkCustomer_6 : decode cX6_checkCustomer 6 = .ok (.return_, 1) := by decide +kernel
theorem dX6_recipeNumbered_0 : decode cX6_recipeNumbered 0 = .ok (.iload_n 1, 1) := by decide +kernel
theorem dX6_recipeNumbered_1 : decode cX6_recipeNumbered 1 = .ok (.ifCond .lt 21, 3) := by decide +kernel
theorem dX6_recipeNumbered_4 : decode cX6_recipeNumbered 4 = .ok (.iload_n 1, 1) := by decide +kernel
theorem dX6_recipeNumbered_5 : decode cX6_recipeNumbered 5 = .ok (.aload_n 0, 1) := by decide +kernel
theorem dX6_recipeNumbered_6 : decode cX6_recipeNumbered 6 = .ok (.getfield 11, 3) := by decide +kernel
theorem dX6_recipeNumbered_9 : decode cX6_recipeNumbered 9 = .ok (.arraylength, 1) := by decide +kernel
theorem dX6_recipeNumbered_10 : decode cX6_recipeNumbered 10 = .ok (.if_icmp .ge 12, 3) := by decide +kernel
theorem dX6_recipeNumbered_13 : decode cX6_recipeNumbered 13 = .ok (.aload_n 0, 1) := by decide +kernel
theorem dX6_recipeNumbered_14 : decode cX6_recipeNumbered 14 = .ok (.getfield 11, 3) := by decide +kernel
theorem dX6_recipeNumbered_17 : decode cX6_recipeNumbered 17 = .ok (.iload_n 1, 1) := by decide +kernel
theorem dX6_recipeNumbered_18 : decode cX6_recipeNumbered 18 = .ok (.aaload, 1) := by decide +kernel
theorem dX6_recipeNumbered_19 : decode cX6_recipeNumbered 19 = .ok (.goto 4, 3) := by decide +kernel
theorem dX6_recipeNumbered_22 : decode cX6_recipeNumbered 22 = .ok (.aconst_null, 1) := by decide +kernel
theorem dX6_recipeNumbered_23 : decode cX6_recipeNumbered 23 = .ok (.astore_n 2, 1) := by decide +kernel
theorem dX6_recipeNumbered_24 : decode cX6_recipeNumbered 24 = .ok (.aload_n 2, 1) := by decide +kernel
theorem dX6_recipeNumbered_25 : decode cX6_recipeNumbered 25 = .ok (.ifnonnull 11, 3) := by decide +kernel
theorem dX6_recipeNumbered_28 : decode cX6_recipeNumbered 28 = .ok (.new 269, 3) := by decide +kernel
theorem dX6_recipeNumbered_31 : decode cX6_recipeNumbered 31 = .ok (.dup, 1) := by decide +kernel
theorem dX6_recipeNumbered_32 : decode cX6_recipeNumbered 32 = .ok (.invokespecial 271, 3) := by decide +kernel
theorem dX6_recipeNumbered_35 : decode cX6_recipeNumbered 35 = .ok (.athrow, 1) := by decide +kernel
theorem dX6_recipeNumbered_36 : decode cX6_recipeNumbered 36 = .ok (.aload_n 2, 1) := by decide +kernel
theorem dX6_recipeNumbered_37 : decode cX6_recipeNumbered 37 = .ok (.areturn, 1) := by decide +kernel
theorem dX6_orderNumbered_0 : decode cX6_orderNumbered 0 = .ok (.iload_n 1, 1) := by decide +kernel
theorem dX6_orderNumbered_1 : decode cX6_orderNumbered 1 = .ok (.ifCond .lt 21, 3) := by decide +kernel
theorem dX6_orderNumbered_4 : decode cX6_orderNumbered 4 = .ok (.iload_n 1, 1) := by decide +kernel
theorem dX6_orderNumbered_5 : decode cX6_orderNumbered 5 = .ok (.aload_n 0, 1) := by decide +kernel
theorem dX6_orderNumbered_6 : decode cX6_orderNumbered 6 = .ok (.getfield 17, 3) := by decide +kernel
theorem dX6_orderNumbered_9 : decode cX6_orderNumbered 9 = .ok (.arraylength, 1) := by decide +kernel
theorem dX6_orderNumbered_10 : decode cX6_orderNumbered 10 = .ok (.if_icmp .ge 12, 3) := by decide +kernel
theorem dX6_orderNumbered_13 : decode cX6_orderNumbered 13 = .ok (.aload_n 0, 1) := by decide +kernel
theorem dX6_orderNumbered_14 : decode cX6_orderNumbered 14 = .ok (.getfield 17, 3) := by decide +kernel
theorem dX6_orderNumbered_17 : decode cX6_orderNumbered 17 = .ok (.iload_n 1, 1) := by decide +kernel
theorem dX6_orderNumbered_18 : decode cX6_orderNumbered 18 = .ok (.aaload, 1) := by decide +kernel
theorem dX6_orderNumbered_19 : decode cX6_orderNumbered 19 = .ok (.goto 4, 3) := by decide +kernel
theorem dX6_orderNumbered_22 : decode cX6_orderNumbered 22 = .ok (.aconst_null, 1) := by decide +kernel
theorem dX6_orderNumbered_23 : decode cX6_orderNumbered 23 = .ok (.astore_n 2, 1) := by decide +kernel
theorem dX6_orderNumbered_24 : decode cX6_orderNumbered 24 = .ok (.aload_n 2, 1) := by decide +kernel
theorem dX6_orderNumbered_25 : decode cX6_orderNumbered 25 = .ok (.ifnonnull 11, 3) := by decide +kernel
theorem dX6_orderNumbered_28 : decode cX6_orderNumbered 28 = .ok (.new 269, 3) := by decide +kernel
theorem dX6_orderNumbered_31 : decode cX6_orderNumbered 31 = .ok (.dup, 1) := by decide +kernel
theorem dX6_orderNumbered_32 : decode cX6_orderNumbered 32 = .ok (.invokespecial 271, 3) := by decide +kernel
theorem dX6_orderNumbered_35 : decode cX6_orderNumbered 35 = .ok (.athrow, 1) := by decide +kernel
theorem dX6_orderNumbered_36 : decode cX6_orderNumbered 36 = .ok (.aload_n 2, 1) := by decide +kernel
theorem dX6_orderNumbered_37 : decode cX6_orderNumbered 37 = .ok (.areturn, 1) := by decide +kernel
theorem dX6_lotNumbered_0 : decode cX6_lotNumbered 0 = .ok (.iload_n 1, 1) := by decide +kernel
theorem dX6_lotNumbered_1 : decode cX6_lotNumbered 1 = .ok (.ifCond .lt 21, 3) := by decide +kernel
theorem dX6_lotNumbered_4 : decode cX6_lotNumbered 4 = .ok (.iload_n 1, 1) := by decide +kernel
theorem dX6_lotNumbered_5 : decode cX6_lotNumbered 5 = .ok (.aload_n 0, 1) := by decide +kernel
theorem dX6_lotNumbered_6 : decode cX6_lotNumbered 6 = .ok (.getfield 23, 3) := by decide +kernel
theorem dX6_lotNumbered_9 : decode cX6_lotNumbered 9 = .ok (.arraylength, 1) := by decide +kernel
theorem dX6_lotNumbered_10 : decode cX6_lotNumbered 10 = .ok (.if_icmp .ge 12, 3) := by decide +kernel
theorem dX6_lotNumbered_13 : decode cX6_lotNumbered 13 = .ok (.aload_n 0, 1) := by decide +kernel
theorem dX6_lotNumbered_14 : decode cX6_lotNumbered 14 = .ok (.getfield 23, 3) := by decide +kernel
theorem dX6_lotNumbered_17 : decode cX6_lotNumbered 17 = .ok (.iload_n 1, 1) := by decide +kernel
theorem dX6_lotNumbered_18 : decode cX6_lotNumbered 18 = .ok (.aaload, 1) := by decide +kernel
theorem dX6_lotNumbered_19 : decode cX6_lotNumbered 19 = .ok (.goto 4, 3) := by decide +kernel
theorem dX6_lotNumbered_22 : decode cX6_lotNumbered 22 = .ok (.aconst_null, 1) := by decide +kernel
theorem dX6_lotNumbered_23 : decode cX6_lotNumbered 23 = .ok (.astore_n 2, 1) := by decide +kernel
theorem dX6_lotNumbered_24 : decode cX6_lotNumbered 24 = .ok (.aload_n 2, 1) := by decide +kernel
theorem dX6_lotNumbered_25 : decode cX6_lotNumbered 25 = .ok (.ifnonnull 11, 3) := by decide +kernel
theorem dX6_lotNumbered_28 : decode cX6_lotNumbered 28 = .ok (.new 269, 3) := by decide +kernel
theorem dX6_lotNumbered_31 : decode cX6_lotNumbered 31 = .ok (.dup, 1) := by decide +kernel
theorem dX6_lotNumbered_32 : decode cX6_lotNumbered 32 = .ok (.invokespecial 271, 3) := by decide +kernel
theorem dX6_lotNumbered_35 : decode cX6_lotNumbered 35 = .ok (.athrow, 1) := by decide +kernel
theorem dX6_lotNumbered_36 : decode cX6_lotNumbered 36 = .ok (.aload_n 2, 1) := by decide +kernel
theorem dX6_lotNumbered_37 : decode cX6_lotNumbered 37 = .ok (.areturn, 1) := by decide +kernel
theorem dX6_vatNumbered_0 : decode cX6_vatNumbered 0 = .ok (.iload_n 1, 1) := by decide +kernel
theorem dX6_vatNumbered_1 : decode cX6_vatNumbered 1 = .ok (.ifCond .lt 21, 3) := by decide +kernel
theorem dX6_vatNumbered_4 : decode cX6_vatNumbered 4 = .ok (.iload_n 1, 1) := by decide +kernel
theorem dX6_vatNumbered_5 : decode cX6_vatNumbered 5 = .ok (.aload_n 0, 1) := by decide +kernel
theorem dX6_vatNumbered_6 : decode cX6_vatNumbered 6 = .ok (.getfield 29, 3) := by decide +kernel
theorem dX6_vatNumbered_9 : decode cX6_vatNumbered 9 = .ok (.arraylength, 1) := by decide +kernel
theorem dX6_vatNumbered_10 : decode cX6_vatNumbered 10 = .ok (.if_icmp .ge 12, 3) := by decide +kernel
theorem dX6_vatNumbered_13 : decode cX6_vatNumbered 13 = .ok (.aload_n 0, 1) := by decide +kernel
theorem dX6_vatNumbered_14 : decode cX6_vatNumbered 14 = .ok (.getfield 29, 3) := by decide +kernel
theorem dX6_vatNumbered_17 : decode cX6_vatNumbered 17 = .ok (.iload_n 1, 1) := by decide +kernel
theorem dX6_vatNumbered_18 : decode cX6_vatNumbered 18 = .ok (.aaload, 1) := by decide +kernel
theorem dX6_vatNumbered_19 : decode cX6_vatNumbered 19 = .ok (.goto 4, 3) := by decide +kernel
theorem dX6_vatNumbered_22 : decode cX6_vatNumbered 22 = .ok (.aconst_null, 1) := by decide +kernel
theorem dX6_vatNumbered_23 : decode cX6_vatNumbered 23 = .ok (.astore_n 2, 1) := by decide +kernel
theorem dX6_vatNumbered_24 : decode cX6_vatNumbered 24 = .ok (.aload_n 2, 1) := by decide +kernel
theorem dX6_vatNumbered_25 : decode cX6_vatNumbered 25 = .ok (.ifnonnull 11, 3) := by decide +kernel
theorem dX6_vatNumbered_28 : decode cX6_vatNumbered 28 = .ok (.new 269, 3) := by decide +kernel
theorem dX6_vatNumbered_31 : decode cX6_vatNumbered 31 = .ok (.dup, 1) := by decide +kernel
theorem dX6_vatNumbered_32 : decode cX6_vatNumbered 32 = .ok (.invokespecial 271, 3) := by decide +kernel
theorem dX6_vatNumbered_35 : decode cX6_vatNumbered 35 = .ok (.athrow, 1) := by decide +kernel
theorem dX6_vatNumbered_36 : decode cX6_vatNumbered 36 = .ok (.aload_n 2, 1) := by decide +kernel
theorem dX6_vatNumbered_37 : decode cX6_vatNumbered 37 = .ok (.areturn, 1) := by decide +kernel
set_option maxRecDepth 20000 in
theorem ggX6_dyedLotNumbered_X6_lotNumbered : GoodIn wsX6_dyedLotNumbered wsX6_lotNumbered := goodIn_ca (goodIn_r _ [8, 9, 10, 11, 21, 22, 23, 24, 25, 26, 27, 28, 29, 30, 31] (by decide +kernel) (by decide +kernel)) (goodIn_sub (fun _ h => List.mem_cons_of_mem _ (List.mem_append_right _ h)) (by decide +kernel))
set_option maxRecDepth 20000 in
theorem gX6_dyedLotNumbered_X6_lotNumbered : GoodIn wsX6_dyedLotNumbered (wsV RX6 107 RX6 yX6_lotNumbered wsX6_lotNumbered) := goodIn_app (goodIn_of _ (by decide +kernel)) ggX6_dyedLotNumbered_X6_lotNumbered
theorem dX6_dyedLotNumbered_0 : decode cX6_dyedLotNumbered 0 = .ok (.aload_n 0, 1) := by decide +kernel
theorem dX6_dyedLotNumbered_1 : decode cX6_dyedLotNumbered 1 = .ok (.iload_n 1, 1) := by decide +kernel
theorem dX6_dyedLotNumbered_2 : decode cX6_dyedLotNumbered 2 = .ok (.invokevirtual 107, 3) := by decide +kernel
theorem dX6_dyedLotNumbered_5 : decode cX6_dyedLotNumbered 5 = .ok (.astore_n 2, 1) := by decide +kernel
theorem dX6_dyedLotNumbered_6 : decode cX6_dyedLotNumbered 6 = .ok (.aload_n 2, 1) := by decide +kernel
theorem dX6_dyedLotNumbered_7 : decode cX6_dyedLotNumbered 7 = .ok (.getfield 147, 3) := by decide +kernel
theorem dX6_dyedLotNumbered_10 : decode cX6_dyedLotNumbered 10 = .ok (.bipush 100, 2) := by decide +kernel
theorem dX6_dyedLotNumbered_12 : decode cX6_dyedLotNumbered 12 = .ok (.if_icmp .eq 11, 3) := by decide +kernel
theorem dX6_dyedLotNumbered_15 : decode cX6_dyedLotNumbered 15 = .ok (.new 56, 3) := by decide +kernel
theorem dX6_dyedLotNumbered_18 : decode cX6_dyedLotNumbered 18 = .ok (.dup, 1) := by decide +kernel
theorem dX6_dyedLotNumbered_19 : decode cX6_dyedLotNumbered 19 = .ok (.invokespecial 58, 3) := by decide +kernel
theorem dX6_dyedLotNumbered_22 : decode cX6_dyedLotNumbered 22 = .ok (.athrow, 1) := by decide +kernel
theorem dX6_dyedLotNumbered_23 : decode cX6_dyedLotNumbered 23 = .ok (.aload_n 2, 1) := by decide +kernel
theorem dX6_dyedLotNumbered_24 : decode cX6_dyedLotNumbered 24 = .ok (.areturn, 1) := by decide +kernel
set_option maxRecDepth 20000 in
theorem ggX6_shadedLotNumbered_X6_lotNumbered : GoodIn wsX6_shadedLotNumbered wsX6_lotNumbered := goodIn_ca (goodIn_r _ [8, 9, 10, 11, 21, 22, 23, 24, 25, 26, 27, 28, 29, 30, 31] (by decide +kernel) (by decide +kernel)) (goodIn_sub (fun _ h => List.mem_cons_of_mem _ (List.mem_append_right _ h)) (by decide +kernel))
set_option maxRecDepth 20000 in
theorem gX6_shadedLotNumbered_X6_lotNumbered : GoodIn wsX6_shadedLotNumbered (wsV RX6 107 RX6 yX6_lotNumbered wsX6_lotNumbered) := goodIn_app (goodIn_of _ (by decide +kernel)) ggX6_shadedLotNumbered_X6_lotNumbered
theorem dX6_shadedLotNumbered_0 : decode cX6_shadedLotNumbered 0 = .ok (.aload_n 0, 1) := by decide +kernel
theorem dX6_shadedLotNumbered_1 : decode cX6_shadedLotNumbered 1 = .ok (.iload_n 1, 1) := by decide +kernel
theorem dX6_shadedLotNumbered_2 : decode cX6_shadedLotNumbered 2 = .ok (.invokevirtual 107, 3) := by decide +kernel
theorem dX6_shadedLotNumbered_5 : decode cX6_shadedLotNumbered 5 = .ok (.astore_n 2, 1) := by decide +kernel
theorem dX6_shadedLotNumbered_6 : decode cX6_shadedLotNumbered 6 = .ok (.aload_n 2, 1) := by decide +kernel
theorem dX6_shadedLotNumbered_7 : decode cX6_shadedLotNumbered 7 = .ok (.getfield 147, 3) := by decide +kernel
theorem dX6_shadedLotNumbered_10 : decode cX6_shadedLotNumbered 10 = .ok (.bipush 119, 2) := by decide +kernel
theorem dX6_shadedLotNumbered_12 : decode cX6_shadedLotNumbered 12 = .ok (.if_icmp .ne 11, 3) := by decide +kernel
theorem dX6_shadedLotNumbered_15 : decode cX6_shadedLotNumbered 15 = .ok (.new 56, 3) := by decide +kernel
theorem dX6_shadedLotNumbered_18 : decode cX6_shadedLotNumbered 18 = .ok (.dup, 1) := by decide +kernel
theorem dX6_shadedLotNumbered_19 : decode cX6_shadedLotNumbered 19 = .ok (.invokespecial 58, 3) := by decide +kernel
theorem dX6_shadedLotNumbered_22 : decode cX6_shadedLotNumbered 22 = .ok (.athrow, 1) := by decide +kernel
theorem dX6_shadedLotNumbered_23 : decode cX6_shadedLotNumbered 23 = .ok (.aload_n 2, 1) := by decide +kernel
theorem dX6_shadedLotNumbered_24 : decode cX6_shadedLotNumbered 24 = .ok (.areturn, 1) := by decide +kernel
set_option maxRecDepth 20000 in
theorem ggX6_reasonAgainst_X6_isTooDark : GoodIn wsX6_reasonAgainst wsX6_isTooDark := goodIn_r _ [14] (by decide +kernel) (by decide +kernel)
set_option maxRecDepth 20000 in
theorem gX6_reasonAgainst_X6_isTooDark : GoodIn wsX6_reasonAgainst (va_wsS RX6 277 yX6_isTooDark wsX6_isTooDark) := goodIn_app (goodIn_of _ (by decide +kernel)) ggX6_reasonAgainst_X6_isTooDark
set_option maxRecDepth 20000 in
theorem ggX6_reasonAgainst_X6_isBarred : GoodIn wsX6_reasonAgainst wsX6_isBarred := goodIn_r _ [17] (by decide +kernel) (by decide +kernel)
set_option maxRecDepth 20000 in
theorem gX6_reasonAgainst_X6_isBarred : GoodIn wsX6_reasonAgainst (va_wsS RX6 281 yX6_isBarred wsX6_isBarred) := goodIn_app (goodIn_of _ (by decide +kernel)) ggX6_reasonAgainst_X6_isBarred
set_option maxRecDepth 20000 in
theorem ggX6_reasonAgainst_X6_isStocked : GoodIn wsX6_reasonAgainst wsX6_isStocked := goodIn_ca (goodIn_r _ [21, 22, 23, 24, 25, 26, 27, 28, 29, 30, 31, 57, 58, 59, 60, 61, 62, 63, 64, 65, 66, 67, 32, 33, 34, 35, 36, 37, 38, 39, 40, 47, 48, 49, 50, 51, 52, 53] (by decide +kernel) (by decide +kernel)) (goodIn_sub (fun _ h => List.mem_cons_of_mem _ (List.mem_append_right _ h)) (by decide +kernel))
set_option maxRecDepth 20000 in
theorem gX6_reasonAgainst_X6_isStocked : GoodIn wsX6_reasonAgainst (wsV RX6 284 RX6 yX6_isStocked wsX6_isStocked) := goodIn_app (goodIn_of _ (by decide +kernel)) ggX6_reasonAgainst_X6_isStocked
theorem dX6_reasonAgainst_0 : decode cX6_reasonAgainst 0 = .ok (.aload_n 1, 1) := by decide +kernel
theorem dX6_reasonAgainst_1 : decode cX6_reasonAgainst 1 = .ok (.getfield 147, 3) := by decide +kernel
theorem dX6_reasonAgainst_4 : decode cX6_reasonAgainst 4 = .ok (.bipush 119, 2) := by decide +kernel
theorem dX6_reasonAgainst_6 : decode cX6_reasonAgainst 6 = .ok (.if_icmp .eq 6, 3) := by decide +kernel
theorem dX6_reasonAgainst_9 : decode cX6_reasonAgainst 9 = .ok (.bipush 119, 2) := by decide +kernel
theorem dX6_reasonAgainst_11 : decode cX6_reasonAgainst 11 = .ok (.ireturn, 1) := by decide +kernel
theorem dX6_reasonAgainst_12 : decode cX6_reasonAgainst 12 = .ok (.aload_n 1, 1) := by decide +kernel
theorem dX6_reasonAgainst_13 : decode cX6_reasonAgainst 13 = .ok (.getfield 188, 3) := by decide +kernel
theorem dX6_reasonAgainst_16 : decode cX6_reasonAgainst 16 = .ok (.aload_n 2, 1) := by decide +kernel
theorem dX6_reasonAgainst_17 : decode cX6_reasonAgainst 17 = .ok (.getfield 191, 3) := by decide +kernel
theorem dX6_reasonAgainst_20 : decode cX6_reasonAgainst 20 = .ok (.if_icmp .le 6, 3) := by decide +kernel
theorem dX6_reasonAgainst_23 : decode cX6_reasonAgainst 23 = .ok (.bipush 104, 2) := by decide +kernel
theorem dX6_reasonAgainst_25 : decode cX6_reasonAgainst 25 = .ok (.ireturn, 1) := by decide +kernel
theorem dX6_reasonAgainst_26 : decode cX6_reasonAgainst 26 = .ok (.aload_n 2, 1) := by decide +kernel
theorem dX6_reasonAgainst_27 : decode cX6_reasonAgainst 27 = .ok (.getfield 134, 3) := by decide +kernel
theorem dX6_reasonAgainst_30 : decode cX6_reasonAgainst 30 = .ok (.aload_n 1, 1) := by decide +kernel
theorem dX6_reasonAgainst_31 : decode cX6_reasonAgainst 31 = .ok (.getfield 236, 3) := by decide +kernel
theorem dX6_reasonAgainst_34 : decode cX6_reasonAgainst 34 = .ok (.getfield 272, 3) := by decide +kernel
theorem dX6_reasonAgainst_37 : decode cX6_reasonAgainst 37 = .ok (.getfield 276, 3) := by decide +kernel
theorem dX6_reasonAgainst_40 : decode cX6_reasonAgainst 40 = .ok (.getfield 218, 3) := by decide +kernel
theorem dX6_reasonAgainst_43 : decode cX6_reasonAgainst 43 = .ok (.invokestatic 277, 3) := by decide +kernel
theorem dX6_reasonAgainst_46 : decode cX6_reasonAgainst 46 = .ok (.ifCond .eq 6, 3) := by decide +kernel
theorem dX6_reasonAgainst_49 : decode cX6_reasonAgainst 49 = .ok (.bipush 115, 2) := by decide +kernel
theorem dX6_reasonAgainst_51 : decode cX6_reasonAgainst 51 = .ok (.ireturn, 1) := by decide +kernel
theorem dX6_reasonAgainst_52 : decode cX6_reasonAgainst 52 = .ok (.aload_n 2, 1) := by decide +kernel
theorem dX6_reasonAgainst_53 : decode cX6_reasonAgainst 53 = .ok (.getfield 167, 3) := by decide +kernel
theorem dX6_reasonAgainst_56 : decode cX6_reasonAgainst 56 = .ok (.aload_n 1, 1) := by decide +kernel
theorem dX6_reasonAgainst_57 : decode cX6_reasonAgainst 57 = .ok (.getfield 236, 3) := by decide +kernel
theorem dX6_reasonAgainst_60 : decode cX6_reasonAgainst 60 = .ok (.getfield 260, 3) := by decide +kernel
theorem dX6_reasonAgainst_63 : decode cX6_reasonAgainst 63 = .ok (.invokestatic 281, 3) := by decide +kernel
theorem dX6_reasonAgainst_66 : decode cX6_reasonAgainst 66 = .ok (.ifCond .eq 6, 3) := by decide +kernel
theorem dX6_reasonAgainst_69 : decode cX6_reasonAgainst 69 = .ok (.bipush 98, 2) := by decide +kernel
theorem dX6_reasonAgainst_71 : decode cX6_reasonAgainst 71 = .ok (.ireturn, 1) := by decide +kernel
theorem dX6_reasonAgainst_72 : decode cX6_reasonAgainst 72 = .ok (.aload_n 0, 1) := by decide +kernel
theorem dX6_reasonAgainst_73 : decode cX6_reasonAgainst 73 = .ok (.aload_n 1, 1) := by decide +kernel
theorem dX6_reasonAgainst_74 : decode cX6_reasonAgainst 74 = .ok (.invokevirtual 284, 3) := by decide +kernel
theorem dX6_reasonAgainst_77 : decode cX6_reasonAgainst 77 = .ok (.ifCond .eq 8, 3) := by decide +kernel
theorem dX6_reasonAgainst_80 : decode cX6_reasonAgainst 80 = .ok (.bipush 45, 2) := by decide +kernel
theorem dX6_reasonAgainst_82 : decode cX6_reasonAgainst 82 = .ok (.goto 5, 3) := by decide +kernel
theorem dX6_reasonAgainst_85 : decode cX6_reasonAgainst 85 = .ok (.bipush 103, 2) := by decide +kernel
theorem dX6_reasonAgainst_87 : decode cX6_reasonAgainst 87 = .ok (.ireturn, 1) := by decide +kernel
theorem dX6_isTooDark_0 : decode cX6_isTooDark 0 = .ok (.iload_n 0, 1) := by decide +kernel
theorem dX6_isTooDark_1 : decode cX6_isTooDark 1 = .ok (.iconst (-1), 1) := by decide +kernel
theorem dX6_isTooDark_2 : decode cX6_isTooDark 2 = .ok (.if_icmp .eq 12, 3) := by decide +kernel
theorem dX6_isTooDark_5 : decode cX6_isTooDark 5 = .ok (.iload_n 0, 1) := by decide +kernel
theorem dX6_isTooDark_6 : decode cX6_isTooDark 6 = .ok (.iload_n 1, 1) := by decide +kernel
theorem dX6_isTooDark_7 : decode cX6_isTooDark 7 = .ok (.if_icmp .ge 7, 3) := by decide +kernel
theorem dX6_isTooDark_10 : decode cX6_isTooDark 10 = .ok (.iconst 1, 1) := by decide +kernel
theorem dX6_isTooDark_11 : decode cX6_isTooDark 11 = .ok (.goto 4, 3) := by decide +kernel
theorem dX6_isTooDark_14 : decode cX6_isTooDark 14 = .ok (.iconst 0, 1) := by decide +kernel
theorem dX6_isTooDark_15 : decode cX6_isTooDark 15 = .ok (.ireturn, 1) := by decide +kernel
theorem dX6_isBarred_0 : decode cX6_isBarred 0 = .ok (.iload_n 0, 1) := by decide +kernel
theorem dX6_isBarred_1 : decode cX6_isBarred 1 = .ok (.iconst (-1), 1) := by decide +kernel
theorem dX6_isBarred_2 : decode cX6_isBarred 2 = .ok (.if_icmp .eq 12, 3) := by decide +kernel
theorem dX6_isBarred_5 : decode cX6_isBarred 5 = .ok (.iload_n 0, 1) := by decide +kernel
theorem dX6_isBarred_6 : decode cX6_isBarred 6 = .ok (.iload_n 1, 1) := by decide +kernel
theorem dX6_isBarred_7 : decode cX6_isBarred 7 = .ok (.if_icmp .eq 7, 3) := by decide +kernel
theorem dX6_isBarred_10 : decode cX6_isBarred 10 = .ok (.iconst 1, 1) := by decide +kernel
theorem dX6_isBarred_11 : decode cX6_isBarred 11 = .ok (.goto 4, 3) := by decide +kernel
theorem dX6_isBarred_14 : decode cX6_isBarred 14 = .ok (.iconst 0, 1) := by decide +kernel
theorem dX6_isBarred_15 : decode cX6_isBarred 15 = .ok (.ireturn, 1) := by decide +kernel
set_option maxRecDepth 20000 in
theorem ggX6_isStocked_X0_gramsNeeded : GoodIn wsX6_isStocked wsX0_gramsNeeded := goodIn_ca (goodIn_r _ [6, 7, 8, 9, 10, 22, 23, 24, 25, 26, 27, 28, 29, 30, 31, 32, 33, 34, 35, 36, 37] (by decide +kernel) (by decide +kernel)) (goodIn_sub (fun _ h => List.mem_cons_of_mem _ (List.mem_append_right _ h)) (by decide +kernel))
set_option maxRecDepth 20000 in
theorem gX6_isStocked_X0_gramsNeeded : GoodIn wsX6_isStocked (wsV RX6 111 RX0 yX0_gramsNeeded wsX0_gramsNeeded) := goodIn_app (goodIn_of _ (by decide +kernel)) ggX6_isStocked_X0_gramsNeeded
theorem dX6_isStocked_0 : decode cX6_isStocked 0 = .ok (.iconst 0, 1) := by decide +kernel
theorem dX6_isStocked_1 : decode cX6_isStocked 1 = .ok (.istore_n 2, 1) := by decide +kernel
theorem dX6_isStocked_2 : decode cX6_isStocked 2 = .ok (.iload_n 2, 1) := by decide +kernel
theorem dX6_isStocked_3 : decode cX6_isStocked 3 = .ok (.iconst 3, 1) := by decide +kernel
theorem dX6_isStocked_4 : decode cX6_isStocked 4 = .ok (.if_icmp .ge 25, 3) := by decide +kernel
theorem dX6_isStocked_7 : decode cX6_isStocked 7 = .ok (.aload_n 0, 1) := by decide +kernel
theorem dX6_isStocked_8 : decode cX6_isStocked 8 = .ok (.getfield 33, 3) := by decide +kernel
theorem dX6_isStocked_11 : decode cX6_isStocked 11 = .ok (.iload_n 2, 1) := by decide +kernel
theorem dX6_isStocked_12 : decode cX6_isStocked 12 = .ok (.iaload, 1) := by decide +kernel
theorem dX6_isStocked_13 : decode cX6_isStocked 13 = .ok (.aload_n 1, 1) := by decide +kernel
theorem dX6_isStocked_14 : decode cX6_isStocked 14 = .ok (.iload_n 2, 1) := by decide +kernel
theorem dX6_isStocked_15 : decode cX6_isStocked 15 = .ok (.invokevirtual 111, 3) := by decide +kernel
theorem dX6_isStocked_18 : decode cX6_isStocked 18 = .ok (.if_icmp .ge 5, 3) := by decide +kernel
theorem dX6_isStocked_21 : decode cX6_isStocked 21 = .ok (.iconst 0, 1) := by decide +kernel
theorem dX6_isStocked_22 : decode cX6_isStocked 22 = .ok (.ireturn, 1) := by decide +kernel
theorem dX6_isStocked_23 : decode cX6_isStocked 23 = .ok (.iinc 2 1, 3) := by decide +kernel
theorem dX6_isStocked_26 : decode cX6_isStocked 26 = .ok (.goto (-24), 3) := by decide +kernel
theorem dX6_isStocked_29 : decode cX6_isStocked 29 = .ok (.iconst 1, 1) := by decide +kernel
theorem dX6_isStocked_30 : decode cX6_isStocked 30 = .ok (.ireturn, 1) := by decide +kernel
set_option maxRecDepth 20000 in
theorem ggX6_takeDyesFor_X0_gramsNeeded : GoodIn wsX6_takeDyesFor wsX0_gramsNeeded := goodIn_ca (goodIn_r _ [7, 8, 9, 10, 11, 23, 24, 25, 26, 27, 28, 29, 30, 31, 32, 33, 34, 35, 36, 37, 38] (by decide +kernel) (by decide +kernel)) (goodIn_sub (fun _ h => List.mem_cons_of_mem _ (List.mem_append_right _ h)) (by decide +kernel))
set_option maxRecDepth 20000 in
theorem gX6_takeDyesFor_X0_gramsNeeded : GoodIn wsX6_takeDyesFor (wsV RX6 111 RX0 yX0_gramsNeeded wsX0_gramsNeeded) := goodIn_app (goodIn_of _ (by decide +kernel)) ggX6_takeDyesFor_X0_gramsNeeded
theorem dX6_takeDyesFor_0 : decode cX6_takeDyesFor 0 = .ok (.iconst 0, 1) := by decide +kernel
theorem dX6_takeDyesFor_1 : decode cX6_takeDyesFor 1 = .ok (.istore_n 2, 1) := by decide +kernel
theorem dX6_takeDyesFor_2 : decode cX6_takeDyesFor 2 = .ok (.iload_n 2, 1) := by decide +kernel
theorem dX6_takeDyesFor_3 : decode cX6_takeDyesFor 3 = .ok (.iconst 3, 1) := by decide +kernel
theorem dX6_takeDyesFor_4 : decode cX6_takeDyesFor 4 = .ok (.if_icmp .ge 36, 3) := by decide +kernel
theorem dX6_takeDyesFor_7 : decode cX6_takeDyesFor 7 = .ok (.aload_n 1, 1) := by decide +kernel
theorem dX6_takeDyesFor_8 : decode cX6_takeDyesFor 8 = .ok (.iload_n 2, 1) := by decide +kernel
theorem dX6_takeDyesFor_9 : decode cX6_takeDyesFor 9 = .ok (.invokevirtual 111, 3) := by decide +kernel
theorem dX6_takeDyesFor_12 : decode cX6_takeDyesFor 12 = .ok (.istore_n 3, 1) := by decide +kernel
theorem dX6_takeDyesFor_13 : decode cX6_takeDyesFor 13 = .ok (.aload_n 0, 1) := by decide +kernel
theorem dX6_takeDyesFor_14 : decode cX6_takeDyesFor 14 = .ok (.getfield 33, 3) := by decide +kernel
theorem dX6_takeDyesFor_17 : decode cX6_takeDyesFor 17 = .ok (.iload_n 2, 1) := by decide +kernel
theorem dX6_takeDyesFor_18 : decode cX6_takeDyesFor 18 = .ok (.dup2, 1) := by decide +kernel
theorem dX6_takeDyesFor_19 : decode cX6_takeDyesFor 19 = .ok (.iaload, 1) := by decide +kernel
theorem dX6_takeDyesFor_20 : decode cX6_takeDyesFor 20 = .ok (.iload_n 3, 1) := by decide +kernel
theorem dX6_takeDyesFor_21 : decode cX6_takeDyesFor 21 = .ok (.isub, 1) := by decide +kernel
theorem dX6_takeDyesFor_22 : decode cX6_takeDyesFor 22 = .ok (.iastore, 1) := by decide +kernel
theorem dX6_takeDyesFor_23 : decode cX6_takeDyesFor 23 = .ok (.aload_n 0, 1) := by decide +kernel
theorem dX6_takeDyesFor_24 : decode cX6_takeDyesFor 24 = .ok (.getfield 37, 3) := by decide +kernel
theorem dX6_takeDyesFor_27 : decode cX6_takeDyesFor 27 = .ok (.iload_n 2, 1) := by decide +kernel
theorem dX6_takeDyesFor_28 : decode cX6_takeDyesFor 28 = .ok (.dup2, 1) := by decide +kernel
theorem dX6_takeDyesFor_29 : decode cX6_takeDyesFor 29 = .ok (.laload, 1) := by decide +kernel
theorem dX6_takeDyesFor_30 : decode cX6_takeDyesFor 30 = .ok (.iload_n 3, 1) := by decide +kernel
theorem dX6_takeDyesFor_31 : decode cX6_takeDyesFor 31 = .ok (.i2l, 1) := by decide +kernel
theorem dX6_takeDyesFor_32 : decode cX6_takeDyesFor 32 = .ok (.ladd, 1) := by decide +kernel
theorem dX6_takeDyesFor_33 : decode cX6_takeDyesFor 33 = .ok (.lastore, 1) := by decide +kernel
theorem dX6_takeDyesFor_34 : decode cX6_takeDyesFor 34 = .ok (.iinc 2 1, 3) := by decide +kernel
theorem dX6_takeDyesFor_37 : decode cX6_takeDyesFor 37 = .ok (.goto (-35), 3) := by decide +kernel
theorem dX6_takeDyesFor_40 : decode cX6_takeDyesFor 40 = .ok (.return_, 1) := by decide +kernel
set_option maxRecDepth 20000 in
theorem ggX6_verdictOn_X0_distanceFromRecipe : GoodIn wsX6_verdictOn wsX0_distanceFromRecipe := goodIn_r _ [7, 8, 9, 10, 11, 12, 13, 14, 15, 16, 17, 18, 19, 20, 21, 22, 23, 40, 41, 42, 43, 44, 45, 46, 47, 48, 49, 50, 51, 52, 53, 54, 55, 56, 57, 58] (by decide +kernel) (by decide +kernel)
set_option maxRecDepth 20000 in
theorem gX6_verdictOn_X0_distanceFromRecipe : GoodIn wsX6_verdictOn (wsV RX6 225 RX0 yX0_distanceFromRecipe wsX0_distanceFromRecipe) := goodIn_app (goodIn_of _ (by decide +kernel)) ggX6_verdictOn_X0_distanceFromRecipe
set_option maxRecDepth 20000 in
theorem ggX6_verdictOn_X6_greatestDistanceFromPassed : GoodIn wsX6_verdictOn wsX6_greatestDistanceFromPassed := goodIn_r _ [28, 29, 1, 30, 31, 32, 20, 33, 34, 35, 36, 6, 37, 9, 38, 39, 13, 14, 15, 16, 17, 18, 19, 21, 22, 23, 59, 60, 61, 62, 63, 64, 65, 66, 67, 68, 69, 40, 41, 42, 43, 44, 45, 46, 47, 48, 56, 57, 58] (by decide +kernel) (by decide +kernel)
set_option maxRecDepth 20000 in
theorem gX6_verdictOn_X6_greatestDistanceFromPassed : GoodIn wsX6_verdictOn (wsV RX6 244 RX6 yX6_greatestDistanceFromPassed wsX6_greatestDistanceFromPassed) := goodIn_app (goodIn_of _ (by decide +kernel)) ggX6_verdictOn_X6_greatestDistanceFromPassed
theorem dX6_verdictOn_0 : decode cX6_verdictOn 0 = .ok (.aload_n 1, 1) := by decide +kernel
theorem dX6_verdictOn_1 : decode cX6_verdictOn 1 = .ok (.invokevirtual 225, 3) := by decide +kernel
theorem dX6_verdictOn_4 : decode cX6_verdictOn 4 = .ok (.aload_n 1, 1) := by decide +kernel
theorem dX6_verdictOn_5 : decode cX6_verdictOn 5 = .ok (.getfield 236, 3) := by decide +kernel
theorem dX6_verdictOn_8 : decode cX6_verdictOn 8 = .ok (.getfield 288, 3) := by decide +kernel
theorem dX6_verdictOn_11 : decode cX6_verdictOn 11 = .ok (.if_icmp .le 6, 3) := by decide +kernel
theorem dX6_verdictOn_14 : decode cX6_verdictOn 14 = .ok (.bipush 102, 2) := by decide +kernel
theorem dX6_verdictOn_16 : decode cX6_verdictOn 16 = .ok (.ireturn, 1) := by decide +kernel
theorem dX6_verdictOn_17 : decode cX6_verdictOn 17 = .ok (.aload_n 0, 1) := by decide +kernel
theorem dX6_verdictOn_18 : decode cX6_verdictOn 18 = .ok (.aload_n 1, 1) := by decide +kernel
theorem dX6_verdictOn_19 : decode cX6_verdictOn 19 = .ok (.invokevirtual 244, 3) := by decide +kernel
theorem dX6_verdictOn_22 : decode cX6_verdictOn 22 = .ok (.aload_n 1, 1) := by decide +kernel
theorem dX6_verdictOn_23 : decode cX6_verdictOn 23 = .ok (.getfield 236, 3) := by decide +kernel
theorem dX6_verdictOn_26 : decode cX6_verdictOn 26 = .ok (.getfield 288, 3) := by decide +kernel
theorem dX6_verdictOn_29 : decode cX6_verdictOn 29 = .ok (.if_icmp .le 8, 3) := by decide +kernel
theorem dX6_verdictOn_32 : decode cX6_verdictOn 32 = .ok (.bipush 97, 2) := by decide +kernel
theorem dX6_verdictOn_34 : decode cX6_verdictOn 34 = .ok (.goto 5, 3) := by decide +kernel
theorem dX6_verdictOn_37 : decode cX6_verdictOn 37 = .ok (.bipush 112, 2) := by decide +kernel
theorem dX6_verdictOn_39 : decode cX6_verdictOn 39 = .ok (.ireturn, 1) := by decide +kernel
set_option maxRecDepth 20000 in
theorem ggX6_greatestDistanceFromPassed_X0_isPassedOf : GoodIn wsX6_greatestDistanceFromPassed wsX0_isPassedOf := goodIn_r _ [12, 13, 14, 37, 38, 39, 40, 41, 42, 43, 44, 45] (by decide +kernel) (by decide +kernel)
set_option maxRecDepth 20000 in
theorem gX6_greatestDistanceFromPassed_X0_isPassedOf : GoodIn wsX6_greatestDistanceFromPassed (wsV RX6 240 RX0 yX0_isPassedOf wsX0_isPassedOf) := goodIn_app (goodIn_of _ (by decide +kernel)) ggX6_greatestDistanceFromPassed_X0_isPassedOf
set_option maxRecDepth 20000 in
theorem ggX6_greatestDistanceFromPassed_X4_distanceTo : GoodIn wsX6_greatestDistanceFromPassed wsX4_distanceTo := goodIn_r _ [19, 20, 21, 22, 6, 23, 24, 25, 46, 47, 48] (by decide +kernel) (by decide +kernel)
set_option maxRecDepth 20000 in
theorem gX6_greatestDistanceFromPassed_X4_distanceTo : GoodIn wsX6_greatestDistanceFromPassed (wsV RX6 228 RX4 yX4_distanceTo wsX4_distanceTo) := goodIn_app (goodIn_of _ (by decide +kernel)) ggX6_greatestDistanceFromPassed_X4_distanceTo
theorem dX6_greatestDistanceFromPassed_0 : decode cX6_greatestDistanceFromPassed 0 = .ok (.iconst 0, 1) := by decide +kernel
theorem dX6_greatestDistanceFromPassed_1 : decode cX6_greatestDistanceFromPassed 1 = .ok (.istore_n 2, 1) := by decide +kernel
theorem dX6_greatestDistanceFromPassed_2 : decode cX6_greatestDistanceFromPassed 2 = .ok (.aload_n 0, 1) := by decide +kernel
theorem dX6_greatestDistanceFromPassed_3 : decode cX6_greatestDistanceFromPassed 3 = .ok (.getfield 23, 3) := by decide +kernel
theorem dX6_greatestDistanceFromPassed_6 : decode cX6_greatestDistanceFromPassed 6 = .ok (.astore_n 3, 1) := by decide +kernel
theorem dX6_greatestDistanceFromPassed_7 : decode cX6_greatestDistanceFromPassed 7 = .ok (.aload_n 3, 1) := by decide +kernel
theorem dX6_greatestDistanceFromPassed_8 : decode cX6_greatestDistanceFromPassed 8 = .ok (.arraylength, 1) := by decide +kernel
theorem dX6_greatestDistanceFromPassed_9 : decode cX6_greatestDistanceFromPassed 9 = .ok (.istore 4, 2) := by decide +kernel
theorem dX6_greatestDistanceFromPassed_11 : decode cX6_greatestDistanceFromPassed 11 = .ok (.iconst 0, 1) := by decide +kernel
theorem dX6_greatestDistanceFromPassed_12 : decode cX6_greatestDistanceFromPassed 12 = .ok (.istore 5, 2) := by decide +kernel
theorem dX6_greatestDistanceFromPassed_14 : decode cX6_greatestDistanceFromPassed 14 = .ok (.iload 5, 2) := by decide +kernel
theorem dX6_greatestDistanceFromPassed_16 : decode cX6_greatestDistanceFromPassed 16 = .ok (.iload 4, 2) := by decide +kernel
theorem dX6_greatestDistanceFromPassed_18 : decode cX6_greatestDistanceFromPassed 18 = .ok (.if_icmp .ge 49, 3) := by decide +kernel
theorem dX6_greatestDistanceFromPassed_21 : decode cX6_greatestDistanceFromPassed 21 = .ok (.aload_n 3, 1) := by decide +kernel
theorem dX6_greatestDistanceFromPassed_22 : decode cX6_greatestDistanceFromPassed 22 = .ok (.iload 5, 2) := by decide +kernel
theorem dX6_greatestDistanceFromPassed_24 : decode cX6_greatestDistanceFromPassed 24 = .ok (.aaload, 1) := by decide +kernel
theorem dX6_greatestDistanceFromPassed_25 : decode cX6_greatestDistanceFromPassed 25 = .ok (.astore 6, 2) := by decide +kernel
theorem dX6_greatestDistanceFromPassed_27 : decode cX6_greatestDistanceFromPassed 27 = .ok (.aload 6, 2) := by decide +kernel
theorem dX6_greatestDistanceFromPassed_29 : decode cX6_greatestDistanceFromPassed 29 = .ok (.ifnull 32, 3) := by decide +kernel
theorem dX6_greatestDistanceFromPassed_32 : decode cX6_greatestDistanceFromPassed 32 = .ok (.aload 6, 2) := by decide +kernel
theorem dX6_greatestDistanceFromPassed_34 : decode cX6_greatestDistanceFromPassed 34 = .ok (.aload_n 1, 1) := by decide +kernel
theorem dX6_greatestDistanceFromPassed_35 : decode cX6_greatestDistanceFromPassed 35 = .ok (.getfield 236, 3) := by decide +kernel
theorem dX6_greatestDistanceFromPassed_38 : decode cX6_greatestDistanceFromPassed 38 = .ok (.invokevirtual 240, 3) := by decide +kernel
theorem dX6_greatestDistanceFromPassed_41 : decode cX6_greatestDistanceFromPassed 41 = .ok (.ifCond .eq 20, 3) := by decide +kernel
theorem dX6_greatestDistanceFromPassed_44 : decode cX6_greatestDistanceFromPassed 44 = .ok (.iload_n 2, 1) := by decide +kernel
theorem dX6_greatestDistanceFromPassed_45 : decode cX6_greatestDistanceFromPassed 45 = .ok (.aload_n 1, 1) := by decide +kernel
theorem dX6_greatestDistanceFromPassed_46 : decode cX6_greatestDistanceFromPassed 46 = .ok (.getfield 140, 3) := by decide +kernel
theorem dX6_greatestDistanceFromPassed_49 : decode cX6_greatestDistanceFromPassed 49 = .ok (.aload 6, 2) := by decide +kernel
theorem dX6_greatestDistanceFromPassed_51 : decode cX6_greatestDistanceFromPassed 51 = .ok (.getfield 140, 3) := by decide +kernel
theorem dX6_greatestDistanceFromPassed_54 : decode cX6_greatestDistanceFromPassed 54 = .ok (.invokevirtual 228, 3) := by decide +kernel
theorem dX6_greatestDistanceFromPassed_57 : decode cX6_greatestDistanceFromPassed 57 = .ok (.invokestatic 247, 3) := by decide +kernel
theorem dX6_greatestDistanceFromPassed_60 : decode cX6_greatestDistanceFromPassed 60 = .ok (.istore_n 2, 1) := by decide +kernel
theorem dX6_greatestDistanceFromPassed_61 : decode cX6_greatestDistanceFromPassed 61 = .ok (.iinc 5 1, 3) := by decide +kernel
theorem dX6_greatestDistanceFromPassed_64 : decode cX6_greatestDistanceFromPassed 64 = .ok (.goto (-50), 3) := by decide +kernel
theorem dX6_greatestDistanceFromPassed_67 : decode cX6_greatestDistanceFromPassed 67 = .ok (.iload_n 2, 1) := by decide +kernel
theorem dX6_greatestDistanceFromPassed_68 : decode cX6_greatestDistanceFromPassed 68 = .ok (.ireturn, 1) := by decide +kernel
theorem dX6_barVatOf_0 : decode cX6_barVatOf 0 = .ok (.aload_n 0, 1) := by decide +kernel
theorem dX6_barVatOf_1 : decode cX6_barVatOf 1 = .ok (.getfield 151, 3) := by decide +kernel
theorem dX6_barVatOf_4 : decode cX6_barVatOf 4 = .ok (.astore_n 1, 1) := by decide +kernel
theorem dX6_barVatOf_5 : decode cX6_barVatOf 5 = .ok (.aload_n 1, 1) := by decide +kernel
theorem dX6_barVatOf_6 : decode cX6_barVatOf 6 = .ok (.ifnull 25, 3) := by decide +kernel
theorem dX6_barVatOf_9 : decode cX6_barVatOf 9 = .ok (.aload_n 1, 1) := by decide +kernel
theorem dX6_barVatOf_10 : decode cX6_barVatOf 10 = .ok (.getfield 158, 3) := by decide +kernel
theorem dX6_barVatOf_13 : decode cX6_barVatOf 13 = .ok (.aload_n 0, 1) := by decide +kernel
theorem dX6_barVatOf_14 : decode cX6_barVatOf 14 = .ok (.getfield 161, 3) := by decide +kernel
theorem dX6_barVatOf_17 : decode cX6_barVatOf 17 = .ok (.if_icmp .ne 14, 3) := by decide +kernel
theorem dX6_barVatOf_20 : decode cX6_barVatOf 20 = .ok (.aload_n 1, 1) := by decide +kernel
theorem dX6_barVatOf_21 : decode cX6_barVatOf 21 = .ok (.aload_n 0, 1) := by decide +kernel
theorem dX6_barVatOf_22 : decode cX6_barVatOf 22 = .ok (.getfield 236, 3) := by decide +kernel
theorem dX6_barVatOf_25 : decode cX6_barVatOf 25 = .ok (.getfield 260, 3) := by decide +kernel
theorem dX6_barVatOf_28 : decode cX6_barVatOf 28 = .ok (.putfield 167, 3) := by decide +kernel
theorem dX6_barVatOf_31 : decode cX6_barVatOf 31 = .ok (.return_, 1) := by decide +kernel
theorem dX6_lotsInState_0 : decode cX6_lotsInState 0 = .ok (.iconst 0, 1) := by decide +kernel
theorem dX6_lotsInState_1 : decode cX6_lotsInState 1 = .ok (.istore_n 2, 1) := by decide +kernel
theorem dX6_lotsInState_2 : decode cX6_lotsInState 2 = .ok (.aload_n 0, 1) := by decide +kernel
theorem dX6_lotsInState_3 : decode cX6_lotsInState 3 = .ok (.getfield 23, 3) := by decide +kernel
theorem dX6_lotsInState_6 : decode cX6_lotsInState 6 = .ok (.astore_n 3, 1) := by decide +kernel
theorem dX6_lotsInState_7 : decode cX6_lotsInState 7 = .ok (.aload_n 3, 1) := by decide +kernel
theorem dX6_lotsInState_8 : decode cX6_lotsInState 8 = .ok (.arraylength, 1) := by decide +kernel
theorem dX6_lotsInState_9 : decode cX6_lotsInState 9 = .ok (.istore 4, 2) := by decide +kernel
theorem dX6_lotsInState_11 : decode cX6_lotsInState 11 = .ok (.iconst 0, 1) := by decide +kernel
theorem dX6_lotsInState_12 : decode cX6_lotsInState 12 = .ok (.istore 5, 2) := by decide +kernel
theorem dX6_lotsInState_14 : decode cX6_lotsInState 14 = .ok (.iload 5, 2) := by decide +kernel
theorem dX6_lotsInState_16 : decode cX6_lotsInState 16 = .ok (.iload 4, 2) := by decide +kernel
theorem dX6_lotsInState_18 : decode cX6_lotsInState 18 = .ok (.if_icmp .ge 32, 3) := by decide +kernel
theorem dX6_lotsInState_21 : decode cX6_lotsInState 21 = .ok (.aload_n 3, 1) := by decide +kernel
theorem dX6_lotsInState_22 : decode cX6_lotsInState 22 = .ok (.iload 5, 2) := by decide +kernel
theorem dX6_lotsInState_24 : decode cX6_lotsInState 24 = .ok (.aaload, 1) := by decide +kernel
theorem dX6_lotsInState_25 : decode cX6_lotsInState 25 = .ok (.astore 6, 2) := by decide +kernel
theorem dX6_lotsInState_27 : decode cX6_lotsInState 27 = .ok (.aload 6, 2) := by decide +kernel
theorem dX6_lotsInState_29 : decode cX6_lotsInState 29 = .ok (.ifnull 15, 3) := by decide +kernel
theorem dX6_lotsInState_32 : decode cX6_lotsInState 32 = .ok (.aload 6, 2) := by decide +kernel
theorem dX6_lotsInState_34 : decode cX6_lotsInState 34 = .ok (.getfield 147, 3) := by decide +kernel
theorem dX6_lotsInState_37 : decode cX6_lotsInState 37 = .ok (.iload_n 1, 1) := by decide +kernel
theorem dX6_lotsInState_38 : decode cX6_lotsInState 38 = .ok (.if_icmp .ne 6, 3) := by decide +kernel
theorem dX6_lotsInState_41 : decode cX6_lotsInState 41 = .ok (.iinc 2 1, 3) := by decide +kernel
theorem dX6_lotsInState_44 : decode cX6_lotsInState 44 = .ok (.iinc 5 1, 3) := by decide +kernel
theorem dX6_lotsInState_47 : decode cX6_lotsInState 47 = .ok (.goto (-33), 3) := by decide +kernel
theorem dX6_lotsInState_50 : decode cX6_lotsInState 50 = .ok (.iload_n 2, 1) := by decide +kernel
theorem dX6_lotsInState_51 : decode cX6_lotsInState 51 = .ok (.ireturn, 1) := by decide +kernel
theorem dX6_plannedLots_0 : decode cX6_plannedLots 0 = .ok (.iconst 0, 1) := by decide +kernel
theorem dX6_plannedLots_1 : decode cX6_plannedLots 1 = .ok (.istore_n 2, 1) := by decide +kernel
theorem dX6_plannedLots_2 : decode cX6_plannedLots 2 = .ok (.aload_n 0, 1) := by decide +kernel
theorem dX6_plannedLots_3 : decode cX6_plannedLots 3 = .ok (.getfield 23, 3) := by decide +kernel
theorem dX6_plannedLots_6 : decode cX6_plannedLots 6 = .ok (.astore_n 3, 1) := by decide +kernel
theorem dX6_plannedLots_7 : decode cX6_plannedLots 7 = .ok (.aload_n 3, 1) := by decide +kernel
theorem dX6_plannedLots_8 : decode cX6_plannedLots 8 = .ok (.arraylength, 1) := by decide +kernel
theorem dX6_plannedLots_9 : decode cX6_plannedLots 9 = .ok (.istore 4, 2) := by decide +kernel
theorem dX6_plannedLots_11 : decode cX6_plannedLots 11 = .ok (.iconst 0, 1) := by decide +kernel
theorem dX6_plannedLots_12 : decode cX6_plannedLots 12 = .ok (.istore 5, 2) := by decide +kernel
theorem dX6_plannedLots_14 : decode cX6_plannedLots 14 = .ok (.iload 5, 2) := by decide +kernel
theorem dX6_plannedLots_16 : decode cX6_plannedLots 16 = .ok (.iload 4, 2) := by decide +kernel
theorem dX6_plannedLots_18 : decode cX6_plannedLots 18 = .ok (.if_icmp .ge 32, 3) := by decide +kernel
theorem dX6_plannedLots_21 : decode cX6_plannedLots 21 = .ok (.aload_n 3, 1) := by decide +kernel
theorem dX6_plannedLots_22 : decode cX6_plannedLots 22 = .ok (.iload 5, 2) := by decide +kernel
theorem dX6_plannedLots_24 : decode cX6_plannedLots 24 = .ok (.aaload, 1) := by decide +kernel
theorem dX6_plannedLots_25 : decode cX6_plannedLots 25 = .ok (.astore 6, 2) := by decide +kernel
theorem dX6_plannedLots_27 : decode cX6_plannedLots 27 = .ok (.aload 6, 2) := by decide +kernel
theorem dX6_plannedLots_29 : decode cX6_plannedLots 29 = .ok (.ifnull 15, 3) := by decide +kernel
theorem dX6_plannedLots_32 : decode cX6_plannedLots 32 = .ok (.aload 6, 2) := by decide +kernel
theorem dX6_plannedLots_34 : decode cX6_plannedLots 34 = .ok (.getfield 164, 3) := by decide +kernel
theorem dX6_plannedLots_37 : decode cX6_plannedLots 37 = .ok (.aload_n 1, 1) := by decide +kernel
theorem dX6_plannedLots_38 : decode cX6_plannedLots 38 = .ok (.if_acmp .ne 6, 3) := by decide +kernel
theorem dX6_plannedLots_41 : decode cX6_plannedLots 41 = .ok (.iinc 2 1, 3) := by decide +kernel
theorem dX6_plannedLots_44 : decode cX6_plannedLots 44 = .ok (.iinc 5 1, 3) := by decide +kernel
theorem dX6_plannedLots_47 : decode cX6_plannedLots 47 = .ok (.goto (-33), 3) := by decide +kernel
theorem dX6_plannedLots_50 : decode cX6_plannedLots 50 = .ok (.iload_n 2, 1) := by decide +kernel
theorem dX6_plannedLots_51 : decode cX6_plannedLots 51 = .ok (.ireturn, 1) := by decide +kernel
set_option maxRecDepth 20000 in
theorem ggX6_fillPlan_X2_begin : GoodIn wsX6_fillPlan wsX2_begin := goodIn_r _ [8, 9, 10, 11, 12, 13, 54, 55, 56, 57, 58, 59, 60, 61, 62, 63, 64, 65, 66] (by decide +kernel) (by decide +kernel)
set_option maxRecDepth 20000 in
theorem gX6_fillPlan_X2_begin : GoodIn wsX6_fillPlan (wsV RX6 291 RX2 yX2_begin wsX2_begin) := goodIn_app (goodIn_of _ (by decide +kernel)) ggX6_fillPlan_X2_begin
set_option maxRecDepth 20000 in
theorem ggX6_fillPlan_X2_add : GoodIn wsX6_fillPlan wsX2_add := goodIn_ca (goodIn_r _ [17, 9, 18, 19, 20, 21, 22, 23, 24, 25, 26, 27, 28, 29, 30, 31, 32, 33, 54, 55, 56, 57, 58, 59, 60, 45, 46, 47, 48, 49, 50, 51, 52, 53, 67, 68, 69, 70, 71, 72, 73, 74, 75, 76] (by decide +kernel) (by decide +kernel)) (goodIn_sub (fun _ h => List.mem_cons_of_mem _ (List.mem_append_right _ h)) (by decide +kernel))
set_option maxRecDepth 20000 in
theorem gX6_fillPlan_X2_add : GoodIn wsX6_fillPlan (wsV RX6 294 RX2 yX2_add wsX2_add) := goodIn_app (goodIn_of _ (by decide +kernel)) ggX6_fillPlan_X2_add
theorem dX6_fillPlan_0 : decode cX6_fillPlan 0 = .ok (.aload_n 0, 1) := by decide +kernel
theorem dX6_fillPlan_1 : decode cX6_fillPlan 1 = .ok (.getfield 44, 3) := by decide +kernel
theorem dX6_fillPlan_4 : decode cX6_fillPlan 4 = .ok (.aload_n 1, 1) := by decide +kernel
theorem dX6_fillPlan_5 : decode cX6_fillPlan 5 = .ok (.invokevirtual 291, 3) := by decide +kernel
theorem dX6_fillPlan_8 : decode cX6_fillPlan 8 = .ok (.aload_n 0, 1) := by decide +kernel
theorem dX6_fillPlan_9 : decode cX6_fillPlan 9 = .ok (.getfield 23, 3) := by decide +kernel
theorem dX6_fillPlan_12 : decode cX6_fillPlan 12 = .ok (.astore_n 2, 1) := by decide +kernel
theorem dX6_fillPlan_13 : decode cX6_fillPlan 13 = .ok (.aload_n 2, 1) := by decide +kernel
theorem dX6_fillPlan_14 : decode cX6_fillPlan 14 = .ok (.arraylength, 1) := by decide +kernel
theorem dX6_fillPlan_15 : decode cX6_fillPlan 15 = .ok (.istore_n 3, 1) := by decide +kernel
theorem dX6_fillPlan_16 : decode cX6_fillPlan 16 = .ok (.iconst 0, 1) := by decide +kernel
theorem dX6_fillPlan_17 : decode cX6_fillPlan 17 = .ok (.istore 4, 2) := by decide +kernel
theorem dX6_fillPlan_19 : decode cX6_fillPlan 19 = .ok (.iload 4, 2) := by decide +kernel
theorem dX6_fillPlan_21 : decode cX6_fillPlan 21 = .ok (.iload_n 3, 1) := by decide +kernel
theorem dX6_fillPlan_22 : decode cX6_fillPlan 22 = .ok (.if_icmp .ge 38, 3) := by decide +kernel
theorem dX6_fillPlan_25 : decode cX6_fillPlan 25 = .ok (.aload_n 2, 1) := by decide +kernel
theorem dX6_fillPlan_26 : decode cX6_fillPlan 26 = .ok (.iload 4, 2) := by decide +kernel
theorem dX6_fillPlan_28 : decode cX6_fillPlan 28 = .ok (.aaload, 1) := by decide +kernel
theorem dX6_fillPlan_29 : decode cX6_fillPlan 29 = .ok (.astore 5, 2) := by decide +kernel
theorem dX6_fillPlan_31 : decode cX6_fillPlan 31 = .ok (.aload 5, 2) := by decide +kernel
theorem dX6_fillPlan_33 : decode cX6_fillPlan 33 = .ok (.ifnull 21, 3) := by decide +kernel
theorem dX6_fillPlan_36 : decode cX6_fillPlan 36 = .ok (.aload 5, 2) := by decide +kernel
theorem dX6_fillPlan_38 : decode cX6_fillPlan 38 = .ok (.getfield 164, 3) := by decide +kernel
theorem dX6_fillPlan_41 : decode cX6_fillPlan 41 = .ok (.aload_n 1, 1) := by decide +kernel
theorem dX6_fillPlan_42 : decode cX6_fillPlan 42 = .ok (.if_acmp .ne 12, 3) := by decide +kernel
theorem dX6_fillPlan_45 : decode cX6_fillPlan 45 = .ok (.aload_n 0, 1) := by decide +kernel
theorem dX6_fillPlan_46 : decode cX6_fillPlan 46 = .ok (.getfield 44, 3) := by decide +kernel
theorem dX6_fillPlan_49 : decode cX6_fillPlan 49 = .ok (.aload 5, 2) := by decide +kernel
theorem dX6_fillPlan_51 : decode cX6_fillPlan 51 = .ok (.invokevirtual 294, 3) := by decide +kernel
theorem dX6_fillPlan_54 : decode cX6_fillPlan 54 = .ok (.iinc 4 1, 3) := by decide +kernel
theorem dX6_fillPlan_57 : decode cX6_fillPlan 57 = .ok (.goto (-38), 3) := by decide +kernel
theorem dX6_fillPlan_60 : decode cX6_fillPlan 60 = .ok (.return_, 1) := by decide +kernel
set_option maxRecDepth 20000 in
theorem ggX6_placeByLight_X0_comesBeforeByLight : GoodIn wsX6_placeByLight wsX0_comesBeforeByLight := goodIn_r _ [7, 8, 9, 10, 11, 12, 24, 25, 26, 27, 28, 29, 30, 31, 32, 33, 34, 35] (by decide +kernel) (by decide +kernel)
set_option maxRecDepth 20000 in
theorem gX6_placeByLight_X0_comesBeforeByLight : GoodIn wsX6_placeByLight (wsV RX6 297 RX0 yX0_comesBeforeByLight wsX0_comesBeforeByLight) := goodIn_app (goodIn_of _ (by decide +kernel)) ggX6_placeByLight_X0_comesBeforeByLight
theorem dX6_placeByLight_0 : decode cX6_placeByLight 0 = .ok (.iconst 0, 1) := by decide +kernel
theorem dX6_placeByLight_1 : decode cX6_placeByLight 1 = .ok (.istore_n 2, 1) := by decide +kernel
theorem dX6_placeByLight_2 : decode cX6_placeByLight 2 = .ok (.aload_n 0, 1) := by decide +kernel
theorem dX6_placeByLight_3 : decode cX6_placeByLight 3 = .ok (.getfield 23, 3) := by decide +kernel
theorem dX6_placeByLight_6 : decode cX6_placeByLight 6 = .ok (.astore_n 3, 1) := by decide +kernel
theorem dX6_placeByLight_7 : decode cX6_placeByLight 7 = .ok (.aload_n 3, 1) := by decide +kernel
theorem dX6_placeByLight_8 : decode cX6_placeByLight 8 = .ok (.arraylength, 1) := by decide +kernel
theorem dX6_placeByLight_9 : decode cX6_placeByLight 9 = .ok (.istore 4, 2) := by decide +kernel
theorem dX6_placeByLight_11 : decode cX6_placeByLight 11 = .ok (.iconst 0, 1) := by decide +kernel
theorem dX6_placeByLight_12 : decode cX6_placeByLight 12 = .ok (.istore 5, 2) := by decide +kernel
theorem dX6_placeByLight_14 : decode cX6_placeByLight 14 = .ok (.iload 5, 2) := by decide +kernel
theorem dX6_placeByLight_16 : decode cX6_placeByLight 16 = .ok (.iload 4, 2) := by decide +kernel
theorem dX6_placeByLight_18 : decode cX6_placeByLight 18 = .ok (.if_icmp .ge 42, 3) := by decide +kernel
theorem dX6_placeByLight_21 : decode cX6_placeByLight 21 = .ok (.aload_n 3, 1) := by decide +kernel
theorem dX6_placeByLight_22 : decode cX6_placeByLight 22 = .ok (.iload 5, 2) := by decide +kernel
theorem dX6_placeByLight_24 : decode cX6_placeByLight 24 = .ok (.aaload, 1) := by decide +kernel
theorem dX6_placeByLight_25 : decode cX6_placeByLight 25 = .ok (.astore 6, 2) := by decide +kernel
theorem dX6_placeByLight_27 : decode cX6_placeByLight 27 = .ok (.aload 6, 2) := by decide +kernel
theorem dX6_placeByLight_29 : decode cX6_placeByLight 29 = .ok (.ifnull 25, 3) := by decide +kernel
theorem dX6_placeByLight_32 : decode cX6_placeByLight 32 = .ok (.aload 6, 2) := by decide +kernel
theorem dX6_placeByLight_34 : decode cX6_placeByLight 34 = .ok (.getfield 147, 3) := by decide +kernel
theorem dX6_placeByLight_37 : decode cX6_placeByLight 37 = .ok (.bipush 119, 2) := by decide +kernel
theorem dX6_placeByLight_39 : decode cX6_placeByLight 39 = .ok (.if_icmp .eq 15, 3) := by decide +kernel
theorem dX6_placeByLight_42 : decode cX6_placeByLight 42 = .ok (.aload 6, 2) := by decide +kernel
theorem dX6_placeByLight_44 : decode cX6_placeByLight 44 = .ok (.aload_n 1, 1) := by decide +kernel
theorem dX6_placeByLight_45 : decode cX6_placeByLight 45 = .ok (.invokevirtual 297, 3) := by decide +kernel
theorem dX6_placeByLight_48 : decode cX6_placeByLight 48 = .ok (.ifCond .eq 6, 3) := by decide +kernel
theorem dX6_placeByLight_51 : decode cX6_placeByLight 51 = .ok (.iinc 2 1, 3) := by decide +kernel
theorem dX6_placeByLight_54 : decode cX6_placeByLight 54 = .ok (.iinc 5 1, 3) := by decide +kernel
theorem dX6_placeByLight_57 : decode cX6_placeByLight 57 = .ok (.goto (-43), 3) := by decide +kernel
theorem dX6_placeByLight_60 : decode cX6_placeByLight 60 = .ok (.iload_n 2, 1) := by decide +kernel
theorem dX6_placeByLight_61 : decode cX6_placeByLight 61 = .ok (.ireturn, 1) := by decide +kernel
theorem dX6_daysLate_0 : decode cX6_daysLate 0 = .ok (.iconst 0, 1) := by decide +kernel
theorem dX6_daysLate_1 : decode cX6_daysLate 1 = .ok (.istore_n 2, 1) := by decide +kernel
theorem dX6_daysLate_2 : decode cX6_daysLate 2 = .ok (.aload_n 0, 1) := by decide +kernel
theorem dX6_daysLate_3 : decode cX6_daysLate 3 = .ok (.getfield 23, 3) := by decide +kernel
theorem dX6_daysLate_6 : decode cX6_daysLate 6 = .ok (.astore_n 3, 1) := by decide +kernel
theorem dX6_daysLate_7 : decode cX6_daysLate 7 = .ok (.aload_n 3, 1) := by decide +kernel
theorem dX6_daysLate_8 : decode cX6_daysLate 8 = .ok (.arraylength, 1) := by decide +kernel
theorem dX6_daysLate_9 : decode cX6_daysLate 9 = .ok (.istore 4, 2) := by decide +kernel
theorem dX6_daysLate_11 : decode cX6_daysLate 11 = .ok (.iconst 0, 1) := by decide +kernel
theorem dX6_daysLate_12 : decode cX6_daysLate 12 = .ok (.istore 5, 2) := by decide +kernel
theorem dX6_daysLate_14 : decode cX6_daysLate 14 = .ok (.iload 5, 2) := by decide +kernel
theorem dX6_daysLate_16 : decode cX6_daysLate 16 = .ok (.iload 4, 2) := by decide +kernel
theorem dX6_daysLate_18 : decode cX6_daysLate 18 = .ok (.if_icmp .ge 49, 3) := by decide +kernel
theorem dX6_daysLate_21 : decode cX6_daysLate 21 = .ok (.aload_n 3, 1) := by decide +kernel
theorem dX6_daysLate_22 : decode cX6_daysLate 22 = .ok (.iload 5, 2) := by decide +kernel
theorem dX6_daysLate_24 : decode cX6_daysLate 24 = .ok (.aaload, 1) := by decide +kernel
theorem dX6_daysLate_25 : decode cX6_daysLate 25 = .ok (.astore 6, 2) := by decide +kernel
theorem dX6_daysLate_27 : decode cX6_daysLate 27 = .ok (.aload 6, 2) := by decide +kernel
theorem dX6_daysLate_29 : decode cX6_daysLate 29 = .ok (.ifnull 32, 3) := by decide +kernel
theorem dX6_daysLate_32 : decode cX6_daysLate 32 = .ok (.aload 6, 2) := by decide +kernel
theorem dX6_daysLate_34 : decode cX6_daysLate 34 = .ok (.getfield 236, 3) := by decide +kernel
theorem dX6_daysLate_37 : decode cX6_daysLate 37 = .ok (.aload_n 1, 1) := by decide +kernel
theorem dX6_daysLate_38 : decode cX6_daysLate 38 = .ok (.if_acmp .ne 23, 3) := by decide +kernel
theorem dX6_daysLate_41 : decode cX6_daysLate 41 = .ok (.aload 6, 2) := by decide +kernel
theorem dX6_daysLate_43 : decode cX6_daysLate 43 = .ok (.getfield 147, 3) := by decide +kernel
theorem dX6_daysLate_46 : decode cX6_daysLate 46 = .ok (.bipush 119, 2) := by decide +kernel
theorem dX6_daysLate_48 : decode cX6_daysLate 48 = .ok (.if_icmp .eq 13, 3) := by decide +kernel
theorem dX6_daysLate_51 : decode cX6_daysLate 51 = .ok (.iload_n 2, 1) := by decide +kernel
theorem dX6_daysLate_52 : decode cX6_daysLate 52 = .ok (.aload 6, 2) := by decide +kernel
theorem dX6_daysLate_54 : decode cX6_daysLate 54 = .ok (.getfield 155, 3) := by decide +kernel
theorem dX6_daysLate_57 : decode cX6_daysLate 57 = .ok (.invokestatic 247, 3) := by decide +kernel
theorem dX6_daysLate_60 : decode cX6_daysLate 60 = .ok (.istore_n 2, 1) := by decide +kernel
theorem dX6_daysLate_61 : decode cX6_daysLate 61 = .ok (.iinc 5 1, 3) := by decide +kernel
theorem dX6_daysLate_64 : decode cX6_daysLate 64 = .ok (.goto (-50), 3) := by decide +kernel
theorem dX6_daysLate_67 : decode cX6_daysLate 67 = .ok (.iconst 0, 1) := by decide +kernel
theorem dX6_daysLate_68 : decode cX6_daysLate 68 = .ok (.iload_n 2, 1) := by decide +kernel
theorem dX6_daysLate_69 : decode cX6_daysLate 69 = .ok (.bipush 24, 2) := by decide +kernel
theorem dX6_daysLate_71 : decode cX6_daysLate 71 = .ok (.idiv, 1) := by decide +kernel
theorem dX6_daysLate_72 : decode cX6_daysLate 72 = .ok (.aload_n 1, 1) := by decide +kernel
theorem dX6_daysLate_73 : decode cX6_daysLate 73 = .ok (.getfield 300, 3) := by decide +kernel
theorem dX6_daysLate_76 : decode cX6_daysLate 76 = .ok (.isub, 1) := by decide +kernel
theorem dX6_daysLate_77 : decode cX6_daysLate 77 = .ok (.invokestatic 247, 3) := by decide +kernel
theorem dX6_daysLate_80 : decode cX6_daysLate 80 = .ok (.ireturn, 1) := by decide +kernel
set_option maxRecDepth 20000 in
theorem ggX6_amountDue_X0_isPassedOf : GoodIn wsX6_amountDue wsX0_isPassedOf := goodIn_r _ [12, 13, 14, 35, 36, 37, 38, 39, 40, 41, 42, 43] (by decide +kernel) (by decide +kernel)
set_option maxRecDepth 20000 in
theorem gX6_amountDue_X0_isPassedOf : GoodIn wsX6_amountDue (wsV RX6 240 RX0 yX0_isPassedOf wsX0_isPassedOf) := goodIn_app (goodIn_of _ (by decide +kernel)) ggX6_amountDue_X0_isPassedOf
set_option maxRecDepth 20000 in
theorem ggX6_amountDue_X6_daysLate : GoodIn wsX6_amountDue wsX6_daysLate := goodIn_r _ [19, 1, 20, 21, 22, 4, 5, 6, 7, 23, 24, 25, 26, 27, 28, 29, 30, 31, 32, 33, 34, 35, 36, 37, 38, 39, 40, 41, 42, 43, 44, 45, 46, 47, 48] (by decide +kernel) (by decide +kernel)
set_option maxRecDepth 20000 in
theorem gX6_amountDue_X6_daysLate : GoodIn wsX6_amountDue (wsV RX6 253 RX6 yX6_daysLate wsX6_daysLate) := goodIn_app (goodIn_of _ (by decide +kernel)) ggX6_amountDue_X6_daysLate
theorem dX6_amountDue_0 : decode cX6_amountDue 0 = .ok (.iconst 0, 1) := by decide +kernel
theorem dX6_amountDue_1 : decode cX6_amountDue 1 = .ok (.istore_n 2, 1) := by decide +kernel
theorem dX6_amountDue_2 : decode cX6_amountDue 2 = .ok (.aload_n 0, 1) := by decide +kernel
theorem dX6_amountDue_3 : decode cX6_amountDue 3 = .ok (.getfield 23, 3) := by decide +kernel
theorem dX6_amountDue_6 : decode cX6_amountDue 6 = .ok (.astore_n 3, 1) := by decide +kernel
theorem dX6_amountDue_7 : decode cX6_amountDue 7 = .ok (.aload_n 3, 1) := by decide +kernel
theorem dX6_amountDue_8 : decode cX6_amountDue 8 = .ok (.arraylength, 1) := by decide +kernel
theorem dX6_amountDue_9 : decode cX6_amountDue 9 = .ok (.istore 4, 2) := by decide +kernel
theorem dX6_amountDue_11 : decode cX6_amountDue 11 = .ok (.iconst 0, 1) := by decide +kernel
theorem dX6_amountDue_12 : decode cX6_amountDue 12 = .ok (.istore 5, 2) := by decide +kernel
theorem dX6_amountDue_14 : decode cX6_amountDue 14 = .ok (.iload 5, 2) := by decide +kernel
theorem dX6_amountDue_16 : decode cX6_amountDue 16 = .ok (.iload 4, 2) := by decide +kernel
theorem dX6_amountDue_18 : decode cX6_amountDue 18 = .ok (.if_icmp .ge 37, 3) := by decide +kernel
theorem dX6_amountDue_21 : decode cX6_amountDue 21 = .ok (.aload_n 3, 1) := by decide +kernel
theorem dX6_amountDue_22 : decode cX6_amountDue 22 = .ok (.iload 5, 2) := by decide +kernel
theorem dX6_amountDue_24 : decode cX6_amountDue 24 = .ok (.aaload, 1) := by decide +kernel
theorem dX6_amountDue_25 : decode cX6_amountDue 25 = .ok (.astore 6, 2) := by decide +kernel
theorem dX6_amountDue_27 : decode cX6_amountDue 27 = .ok (.aload 6, 2) := by decide +kernel
theorem dX6_amountDue_29 : decode cX6_amountDue 29 = .ok (.ifnull 20, 3) := by decide +kernel
theorem dX6_amountDue_32 : decode cX6_amountDue 32 = .ok (.aload 6, 2) := by decide +kernel
theorem dX6_amountDue_34 : decode cX6_amountDue 34 = .ok (.aload_n 1, 1) := by decide +kernel
theorem dX6_amountDue_35 : decode cX6_amountDue 35 = .ok (.invokevirtual 240, 3) := by decide +kernel
theorem dX6_amountDue_38 : decode cX6_amountDue 38 = .ok (.ifCond .eq 11, 3) := by decide +kernel
theorem dX6_amountDue_41 : decode cX6_amountDue 41 = .ok (.iload_n 2, 1) := by decide +kernel
theorem dX6_amountDue_42 : decode cX6_amountDue 42 = .ok (.aload 6, 2) := by decide +kernel
theorem dX6_amountDue_44 : decode cX6_amountDue 44 = .ok (.getfield 188, 3) := by decide +kernel
theorem dX6_amountDue_47 : decode cX6_amountDue 47 = .ok (.iadd, 1) := by decide +kernel
theorem dX6_amountDue_48 : decode cX6_amountDue 48 = .ok (.istore_n 2, 1) := by decide +kernel
theorem dX6_amountDue_49 : decode cX6_amountDue 49 = .ok (.iinc 5 1, 3) := by decide +kernel
theorem dX6_amountDue_52 : decode cX6_amountDue 52 = .ok (.goto (-38), 3) := by decide +kernel
theorem dX6_amountDue_55 : decode cX6_amountDue 55 = .ok (.iconst 0, 1) := by decide +kernel
theorem dX6_amountDue_56 : decode cX6_amountDue 56 = .ok (.iload_n 2, 1) := by decide +kernel
theorem dX6_amountDue_57 : decode cX6_amountDue 57 = .ok (.aload_n 1, 1) := by decide +kernel
theorem dX6_amountDue_58 : decode cX6_amountDue 58 = .ok (.getfield 303, 3) := by decide +kernel
theorem dX6_amountDue_61 : decode cX6_amountDue 61 = .ok (.imul, 1) := by decide +kernel
theorem dX6_amountDue_62 : decode cX6_amountDue 62 = .ok (.bipush 100, 2) := by decide +kernel
theorem dX6_amountDue_64 : decode cX6_amountDue 64 = .ok (.aload_n 0, 1) := by decide +kernel
theorem dX6_amountDue_65 : decode cX6_amountDue 65 = .ok (.aload_n 1, 1) := by decide +kernel
theorem dX6_amountDue_66 : decode cX6_amountDue 66 = .ok (.invokevirtual 253, 3) := by decide +kernel
theorem dX6_amountDue_69 : decode cX6_amountDue 69 = .ok (.imul, 1) := by decide +kernel
theorem dX6_amountDue_70 : decode cX6_amountDue 70 = .ok (.isub, 1) := by decide +kernel
theorem dX6_amountDue_71 : decode cX6_amountDue 71 = .ok (.invokestatic 247, 3) := by decide +kernel
theorem dX6_amountDue_74 : decode cX6_amountDue 74 = .ok (.ireturn, 1) := by decide +kernel
