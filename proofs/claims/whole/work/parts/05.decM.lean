theorem dX7_init_0 : decode cX7_init 0 = .ok (.aload_n 0, 1) := by decide +kernel
theorem dX7_init_1 : decode cX7_init 1 = .ok (.invokespecial 1, 3) := by decide +kernel
theorem dX7_init_4 : decode cX7_init 4 = .ok (.aload_n 0, 1) := by decide +kernel
theorem dX7_init_5 : decode cX7_init 5 = .ok (.bipush 24, 2) := by decide +kernel
theorem dX7_init_7 : decode cX7_init 7 = .ok (.newarray .int, 2) := by decide +kernel
theorem dX7_init_9 : decode cX7_init 9 = .ok (.putfield 7, 3) := by decide +kernel
theorem dX7_init_12 : decode cX7_init 12 = .ok (.aload_n 0, 1) := by decide +kernel
theorem dX7_init_13 : decode cX7_init 13 = .ok (.bipush 24, 2) := by decide +kernel
theorem dX7_init_15 : decode cX7_init 15 = .ok (.newarray .int, 2) := by decide +kernel
theorem dX7_init_17 : decode cX7_init 17 = .ok (.putfield 13, 3) := by decide +kernel
theorem dX7_init_20 : decode cX7_init 20 = .ok (.aload_n 0, 1) := by decide +kernel
theorem dX7_init_21 : decode cX7_init 21 = .ok (.iconst 3, 1) := by decide +kernel
theorem dX7_init_22 : decode cX7_init 22 = .ok (.newarray .int, 2) := by decide +kernel
theorem dX7_init_24 : decode cX7_init 24 = .ok (.putfield 16, 3) := by decide +kernel
theorem dX7_init_27 : decode cX7_init 27 = .ok (.aload_n 0, 1) := by decide +kernel
theorem dX7_init_28 : decode cX7_init 28 = .ok (.iconst 3, 1) := by decide +kernel
theorem dX7_init_29 : decode cX7_init 29 = .ok (.newarray .long, 2) := by decide +kernel
theorem dX7_init_31 : decode cX7_init 31 = .ok (.putfield 19, 3) := by decide +kernel
theorem dX7_init_34 : decode cX7_init 34 = .ok (.aload_n 0, 1) := by decide +kernel
theorem dX7_init_35 : decode cX7_init 35 = .ok (.bipush 6, 2) := by decide +kernel
theorem dX7_init_37 : decode cX7_init 37 = .ok (.newarray .int, 2) := by decide +kernel
theorem dX7_init_39 : decode cX7_init 39 = .ok (.putfield 23, 3) := by decide +kernel
theorem dX7_init_42 : decode cX7_init 42 = .ok (.aload_n 0, 1) := by decide +kernel
theorem dX7_init_43 : decode cX7_init 43 = .ok (.bipush 6, 2) := by decide +kernel
theorem dX7_init_45 : decode cX7_init 45 = .ok (.newarray .int, 2) := by decide +kernel
theorem dX7_init_47 : decode cX7_init 47 = .ok (.putfield 26, 3) := by decide +kernel
theorem dX7_init_50 : decode cX7_init 50 = .ok (.aload_n 0, 1) := by decide +kernel
theorem dX7_init_51 : decode cX7_init 51 = .ok (.bipush 6, 2) := by decide +kernel
theorem dX7_init_53 : decode cX7_init 53 = .ok (.newarray .int, 2) := by decide +kernel
theorem dX7_init_55 : decode cX7_init 55 = .ok (.putfield 29, 3) := by decide +kernel
theorem dX7_init_58 : decode cX7_init 58 = .ok (.aload_n 0, 1) := by decide +kernel
theorem dX7_init_59 : decode cX7_init 59 = .ok (.bipush 6, 2) := by decide +kernel
theorem dX7_init_61 : decode cX7_init 61 = .ok (.newarray .int, 2) := by decide +kernel
theorem dX7_init_63 : decode cX7_init 63 = .ok (.putfield 32, 3) := by decide +kernel
theorem dX7_init_66 : decode cX7_init 66 = .ok (.aload_n 0, 1) := by decide +kernel
theorem dX7_init_67 : decode cX7_init 67 = .ok (.bipush 6, 2) := by decide +kernel
theorem dX7_init_69 : decode cX7_init 69 = .ok (.newarray .int, 2) := by decide +kernel
theorem dX7_init_71 : decode cX7_init 71 = .ok (.putfield 35, 3) := by decide +kernel
theorem dX7_init_74 : decode cX7_init 74 = .ok (.aload_n 0, 1) := by decide +kernel
theorem dX7_init_75 : decode cX7_init 75 = .ok (.bipush 24, 2) := by decide +kernel
theorem dX7_init_77 : decode cX7_init 77 = .ok (.newarray .int, 2) := by decide +kernel
theorem dX7_init_79 : decode cX7_init 79 = .ok (.putfield 38, 3) := by decide +kernel
theorem dX7_init_82 : decode cX7_init 82 = .ok (.aload_n 0, 1) := by decide +kernel
theorem dX7_init_83 : decode cX7_init 83 = .ok (.bipush 24, 2) := by decide +kernel
theorem dX7_init_85 : decode cX7_init 85 = .ok (.newarray .int, 2) := by decide +kernel
theorem dX7_init_87 : decode cX7_init 87 = .ok (.putfield 41, 3) := by decide +kernel
theorem dX7_init_90 : decode cX7_init 90 = .ok (.aload_n 0, 1) := by decide +kernel
theorem dX7_init_91 : decode cX7_init 91 = .ok (.bipush 72, 2) := by decide +kernel
theorem dX7_init_93 : decode cX7_init 93 = .ok (.newarray .int, 2) := by decide +kernel
theorem dX7_init_95 : decode cX7_init 95 = .ok (.putfield 44, 3) := by decide +kernel
theorem dX7_init_98 : decode cX7_init 98 = .ok (.aload_n 0, 1) := by decide +kernel
theorem dX7_init_99 : decode cX7_init 99 = .ok (.bipush 24, 2) := by decide +kernel
theorem dX7_init_101 : decode cX7_init 101 = .ok (.newarray .int, 2) := by decide +kernel
theorem dX7_init_103 : decode cX7_init 103 = .ok (.putfield 47, 3) := by decide +kernel
theorem dX7_init_106 : decode cX7_init 106 = .ok (.aload_n 0, 1) := by decide +kernel
theorem dX7_init_107 : decode cX7_init 107 = .ok (.bipush 24, 2) := by decide +kernel
theorem dX7_init_109 : decode cX7_init 109 = .ok (.newarray .int, 2) := by decide +kernel
theorem dX7_init_111 : decode cX7_init 111 = .ok (.putfield 50, 3) := by decide +kernel
theorem dX7_init_114 : decode cX7_init 114 = .ok (.aload_n 0, 1) := by decide +kernel
theorem dX7_init_115 : decode cX7_init 115 = .ok (.bipush 24, 2) := by decide +kernel
theorem dX7_init_117 : decode cX7_init 117 = .ok (.newarray .int, 2) := by decide +kernel
theorem dX7_init_119 : decode cX7_init 119 = .ok (.putfield 53, 3) := by decide +kernel
theorem dX7_init_122 : decode cX7_init 122 = .ok (.aload_n 0, 1) := by decide +kernel
theorem dX7_init_123 : decode cX7_init 123 = .ok (.bipush 24, 2) := by decide +kernel
theorem dX7_init_125 : decode cX7_init 125 = .ok (.newarray .int, 2) := by decide +kernel
theorem dX7_init_127 : decode cX7_init 127 = .ok (.putfield 56, 3) := by decide +kernel
theorem dX7_init_130 : decode cX7_init 130 = .ok (.aload_n 0, 1) := by decide +kernel
theorem dX7_init_131 : decode cX7_init 131 = .ok (.bipush 24, 2) := by decide +kernel
theorem dX7_init_133 : decode cX7_init 133 = .ok (.newarray .char, 2) := by decide +kernel
theorem dX7_init_135 : decode cX7_init 135 = .ok (.putfield 59, 3) := by decide +kernel
theorem dX7_init_138 : decode cX7_init 138 = .ok (.aload_n 0, 1) := by decide +kernel
theorem dX7_init_139 : decode cX7_init 139 = .ok (.iconst 4, 1) := by decide +kernel
theorem dX7_init_140 : decode cX7_init 140 = .ok (.newarray .int, 2) := by decide +kernel
theorem dX7_init_142 : decode cX7_init 142 = .ok (.putfield 63, 3) := by decide +kernel
theorem dX7_init_145 : decode cX7_init 145 = .ok (.aload_n 0, 1) := by decide +kernel
theorem dX7_init_146 : decode cX7_init 146 = .ok (.iconst 4, 1) := by decide +kernel
theorem dX7_init_147 : decode cX7_init 147 = .ok (.newarray .int, 2) := by decide +kernel
theorem dX7_init_149 : decode cX7_init 149 = .ok (.putfield 66, 3) := by decide +kernel
theorem dX7_init_152 : decode cX7_init 152 = .ok (.aload_n 0, 1) := by decide +kernel
theorem dX7_init_153 : decode cX7_init 153 = .ok (.iconst 4, 1) := by decide +kernel
theorem dX7_init_154 : decode cX7_init 154 = .ok (.newarray .int, 2) := by decide +kernel
theorem dX7_init_156 : decode cX7_init 156 = .ok (.putfield 69, 3) := by decide +kernel
theorem dX7_init_159 : decode cX7_init 159 = .ok (.aload_n 0, 1) := by decide +kernel
theorem dX7_init_160 : decode cX7_init 160 = .ok (.iconst 4, 1) := by decide +kernel
theorem dX7_init_161 : decode cX7_init 161 = .ok (.newarray .int, 2) := by decide +kernel
theorem dX7_init_163 : decode cX7_init 163 = .ok (.putfield 72, 3) := by decide +kernel
theorem dX7_init_166 : decode cX7_init 166 = .ok (.aload_n 0, 1) := by decide +kernel
theorem dX7_init_167 : decode cX7_init 167 = .ok (.iconst 4, 1) := by decide +kernel
theorem dX7_init_168 : decode cX7_init 168 = .ok (.newarray .int, 2) := by decide +kernel
theorem dX7_init_170 : decode cX7_init 170 = .ok (.putfield 75, 3) := by decide +kernel
theorem dX7_init_173 : decode cX7_init 173 = .ok (.aload_n 0, 1) := by decide +kernel
theorem dX7_init_174 : decode cX7_init 174 = .ok (.bipush 6, 2) := by decide +kernel
theorem dX7_init_176 : decode cX7_init 176 = .ok (.newarray .int, 2) := by decide +kernel
theorem dX7_init_178 : decode cX7_init 178 = .ok (.putfield 78, 3) := by decide +kernel
theorem dX7_init_181 : decode cX7_init 181 = .ok (.aload_n 0, 1) := by decide +kernel
theorem dX7_init_182 : decode cX7_init 182 = .ok (.iconst 1, 1) := by decide +kernel
theorem dX7_init_183 : decode cX7_init 183 = .ok (.newarray .int, 2) := by decide +kernel
theorem dX7_init_185 : decode cX7_init 185 = .ok (.putfield 81, 3) := by decide +kernel
theorem dX7_init_188 : decode cX7_init 188 = .ok (.return_, 1) := by decide +kernel
theorem dX7_thrown_0 : decode cX7_thrown 0 = .ok (.aload_n 0, 1) := by decide +kernel
theorem dX7_thrown_1 : decode cX7_thrown 1 = .ok (.getfield 84, 3) := by decide +kernel
theorem dX7_thrown_4 : decode cX7_thrown 4 = .ok (.ireturn, 1) := by decide +kernel
theorem dX7_refuse_0 : decode cX7_refuse 0 = .ok (.aload_n 0, 1) := by decide +kernel
theorem dX7_refuse_1 : decode cX7_refuse 1 = .ok (.iload_n 1, 1) := by decide +kernel
theorem dX7_refuse_2 : decode cX7_refuse 2 = .ok (.putfield 84, 3) := by decide +kernel
theorem dX7_refuse_5 : decode cX7_refuse 5 = .ok (.iconst 0, 1) := by decide +kernel
theorem dX7_refuse_6 : decode cX7_refuse 6 = .ok (.ireturn, 1) := by decide +kernel
theorem dX7_isIn_0 : decode cX7_isIn 0 = .ok (.iload_n 0, 1) := by decide +kernel
theorem dX7_isIn_1 : decode cX7_isIn 1 = .ok (.iload_n 1, 1) := by decide +kernel
theorem dX7_isIn_2 : decode cX7_isIn 2 = .ok (.if_icmp .lt 12, 3) := by decide +kernel
theorem dX7_isIn_5 : decode cX7_isIn 5 = .ok (.iload_n 0, 1) := by decide +kernel
theorem dX7_isIn_6 : decode cX7_isIn 6 = .ok (.iload_n 2, 1) := by decide +kernel
theorem dX7_isIn_7 : decode cX7_isIn 7 = .ok (.if_icmp .gt 7, 3) := by decide +kernel
theorem dX7_isIn_10 : decode cX7_isIn 10 = .ok (.iconst 1, 1) := by decide +kernel
theorem dX7_isIn_11 : decode cX7_isIn 11 = .ok (.goto 4, 3) := by decide +kernel
theorem dX7_isIn_14 : decode cX7_isIn 14 = .ok (.iconst 0, 1) := by decide +kernel
theorem dX7_isIn_15 : decode cX7_isIn 15 = .ok (.ireturn, 1) := by decide +kernel
set_option maxRecDepth 20000 in
theorem ggX7_isShade_X7_isIn : GoodIn wsX7_isShade wsX7_isIn := goodIn_r _ [4] (by decide +kernel) (by decide +kernel)
set_option maxRecDepth 20000 in
theorem gX7_isShade_X7_isIn : GoodIn wsX7_isShade (va_wsS RX7 88 yX7_isIn wsX7_isIn) := goodIn_app (goodIn_of _ (by decide +kernel)) ggX7_isShade_X7_isIn
theorem dX7_isShade_0 : decode cX7_isShade 0 = .ok (.iload_n 0, 1) := by decide +kernel
theorem dX7_isShade_1 : decode cX7_isShade 1 = .ok (.iconst 0, 1) := by decide +kernel
theorem dX7_isShade_2 : decode cX7_isShade 2 = .ok (.bipush 20, 2) := by decide +kernel
theorem dX7_isShade_4 : decode cX7_isShade 4 = .ok (.invokestatic 88, 3) := by decide +kernel
theorem dX7_isShade_7 : decode cX7_isShade 7 = .ok (.ifCond .eq 27, 3) := by decide +kernel
theorem dX7_isShade_10 : decode cX7_isShade 10 = .ok (.iload_n 1, 1) := by decide +kernel
theorem dX7_isShade_11 : decode cX7_isShade 11 = .ok (.iconst 0, 1) := by decide +kernel
theorem dX7_isShade_12 : decode cX7_isShade 12 = .ok (.bipush 20, 2) := by decide +kernel
theorem dX7_isShade_14 : decode cX7_isShade 14 = .ok (.invokestatic 88, 3) := by decide +kernel
theorem dX7_isShade_17 : decode cX7_isShade 17 = .ok (.ifCond .eq 17, 3) := by decide +kernel
theorem dX7_isShade_20 : decode cX7_isShade 20 = .ok (.iload_n 2, 1) := by decide +kernel
theorem dX7_isShade_21 : decode cX7_isShade 21 = .ok (.iconst 0, 1) := by decide +kernel
theorem dX7_isShade_22 : decode cX7_isShade 22 = .ok (.bipush 20, 2) := by decide +kernel
theorem dX7_isShade_24 : decode cX7_isShade 24 = .ok (.invokestatic 88, 3) := by decide +kernel
theorem dX7_isShade_27 : decode cX7_isShade 27 = .ok (.ifCond .eq 7, 3) := by decide +kernel
theorem dX7_isShade_30 : decode cX7_isShade 30 = .ok (.iconst 1, 1) := by decide +kernel
theorem dX7_isShade_31 : decode cX7_isShade 31 = .ok (.goto 4, 3) := by decide +kernel
theorem dX7_isShade_34 : decode cX7_isShade 34 = .ok (.iconst 0, 1) := by decide +kernel
theorem dX7_isShade_35 : decode cX7_isShade 35 = .ok (.ireturn, 1) := by decide +kernel
set_option maxRecDepth 20000 in
theorem ggX7_noLot_X7_isIn : GoodIn wsX7_noLot wsX7_isIn := goodIn_r _ [6] (by decide +kernel) (by decide +kernel)
set_option maxRecDepth 20000 in
theorem gX7_noLot_X7_isIn : GoodIn wsX7_noLot (va_wsS RX7 88 yX7_isIn wsX7_isIn) := goodIn_app (goodIn_of _ (by decide +kernel)) ggX7_noLot_X7_isIn
theorem dX7_noLot_0 : decode cX7_noLot 0 = .ok (.aload_n 0, 1) := by decide +kernel
theorem dX7_noLot_1 : decode cX7_noLot 1 = .ok (.iload_n 1, 1) := by decide +kernel
theorem dX7_noLot_2 : decode cX7_noLot 2 = .ok (.iconst 0, 1) := by decide +kernel
theorem dX7_noLot_3 : decode cX7_noLot 3 = .ok (.aload_n 0, 1) := by decide +kernel
theorem dX7_noLot_4 : decode cX7_noLot 4 = .ok (.getfield 92, 3) := by decide +kernel
theorem dX7_noLot_7 : decode cX7_noLot 7 = .ok (.iconst 1, 1) := by decide +kernel
theorem dX7_noLot_8 : decode cX7_noLot 8 = .ok (.isub, 1) := by decide +kernel
theorem dX7_noLot_9 : decode cX7_noLot 9 = .ok (.invokestatic 88, 3) := by decide +kernel
theorem dX7_noLot_12 : decode cX7_noLot 12 = .ok (.ifCond .eq 7, 3) := by decide +kernel
theorem dX7_noLot_15 : decode cX7_noLot 15 = .ok (.iconst 0, 1) := by decide +kernel
theorem dX7_noLot_16 : decode cX7_noLot 16 = .ok (.goto 4, 3) := by decide +kernel
theorem dX7_noLot_19 : decode cX7_noLot 19 = .ok (.iconst 1, 1) := by decide +kernel
theorem dX7_noLot_20 : decode cX7_noLot 20 = .ok (.putfield 84, 3) := by decide +kernel
theorem dX7_noLot_23 : decode cX7_noLot 23 = .ok (.aload_n 0, 1) := by decide +kernel
theorem dX7_noLot_24 : decode cX7_noLot 24 = .ok (.getfield 84, 3) := by decide +kernel
theorem dX7_noLot_27 : decode cX7_noLot 27 = .ok (.ifCond .eq 7, 3) := by decide +kernel
theorem dX7_noLot_30 : decode cX7_noLot 30 = .ok (.iconst 1, 1) := by decide +kernel
theorem dX7_noLot_31 : decode cX7_noLot 31 = .ok (.goto 4, 3) := by decide +kernel
theorem dX7_noLot_34 : decode cX7_noLot 34 = .ok (.iconst 0, 1) := by decide +kernel
theorem dX7_noLot_35 : decode cX7_noLot 35 = .ok (.ireturn, 1) := by decide +kernel
set_option maxRecDepth 20000 in
theorem ggX7_noVat_X7_isIn : GoodIn wsX7_noVat wsX7_isIn := goodIn_r _ [6] (by decide +kernel) (by decide +kernel)
set_option maxRecDepth 20000 in
theorem gX7_noVat_X7_isIn : GoodIn wsX7_noVat (va_wsS RX7 88 yX7_isIn wsX7_isIn) := goodIn_app (goodIn_of _ (by decide +kernel)) ggX7_noVat_X7_isIn
theorem dX7_noVat_0 : decode cX7_noVat 0 = .ok (.aload_n 0, 1) := by decide +kernel
theorem dX7_noVat_1 : decode cX7_noVat 1 = .ok (.iload_n 1, 1) := by decide +kernel
theorem dX7_noVat_2 : decode cX7_noVat 2 = .ok (.iconst 0, 1) := by decide +kernel
theorem dX7_noVat_3 : decode cX7_noVat 3 = .ok (.aload_n 0, 1) := by decide +kernel
theorem dX7_noVat_4 : decode cX7_noVat 4 = .ok (.getfield 95, 3) := by decide +kernel
theorem dX7_noVat_7 : decode cX7_noVat 7 = .ok (.iconst 1, 1) := by decide +kernel
theorem dX7_noVat_8 : decode cX7_noVat 8 = .ok (.isub, 1) := by decide +kernel
theorem dX7_noVat_9 : decode cX7_noVat 9 = .ok (.invokestatic 88, 3) := by decide +kernel
theorem dX7_noVat_12 : decode cX7_noVat 12 = .ok (.ifCond .eq 7, 3) := by decide +kernel
theorem dX7_noVat_15 : decode cX7_noVat 15 = .ok (.iconst 0, 1) := by decide +kernel
theorem dX7_noVat_16 : decode cX7_noVat 16 = .ok (.goto 4, 3) := by decide +kernel
theorem dX7_noVat_19 : decode cX7_noVat 19 = .ok (.iconst 1, 1) := by decide +kernel
theorem dX7_noVat_20 : decode cX7_noVat 20 = .ok (.putfield 84, 3) := by decide +kernel
theorem dX7_noVat_23 : decode cX7_noVat 23 = .ok (.aload_n 0, 1) := by decide +kernel
theorem dX7_noVat_24 : decode cX7_noVat 24 = .ok (.getfield 84, 3) := by decide +kernel
theorem dX7_noVat_27 : decode cX7_noVat 27 = .ok (.ifCond .eq 7, 3) := by decide +kernel
theorem dX7_noVat_30 : decode cX7_noVat 30 = .ok (.iconst 1, 1) := by decide +kernel
theorem dX7_noVat_31 : decode cX7_noVat 31 = .ok (.goto 4, 3) := by decide +kernel
theorem dX7_noVat_34 : decode cX7_noVat 34 = .ok (.iconst 0, 1) := by decide +kernel
theorem dX7_noVat_35 : decode cX7_noVat 35 = .ok (.ireturn, 1) := by decide +kernel
set_option maxRecDepth 20000 in
theorem ggX7_noOrder_X7_isIn : GoodIn wsX7_noOrder wsX7_isIn := goodIn_r _ [6] (by decide +kernel) (by decide +kernel)
set_option maxRecDepth 20000 in
theorem gX7_noOrder_X7_isIn : GoodIn wsX7_noOrder (va_wsS RX7 88 yX7_isIn wsX7_isIn) := goodIn_app (goodIn_of _ (by decide +kernel)) ggX7_noOrder_X7_isIn
theorem dX7_noOrder_0 : decode cX7_noOrder 0 = .ok (.aload_n 0, 1) := by decide +kernel
theorem dX7_noOrder_1 : decode cX7_noOrder 1 = .ok (.iload_n 1, 1) := by decide +kernel
theorem dX7_noOrder_2 : decode cX7_noOrder 2 = .ok (.iconst 0, 1) := by decide +kernel
theorem dX7_noOrder_3 : decode cX7_noOrder 3 = .ok (.aload_n 0, 1) := by decide +kernel
theorem dX7_noOrder_4 : decode cX7_noOrder 4 = .ok (.getfield 98, 3) := by decide +kernel
theorem dX7_noOrder_7 : decode cX7_noOrder 7 = .ok (.iconst 1, 1) := by decide +kernel
theorem dX7_noOrder_8 : decode cX7_noOrder 8 = .ok (.isub, 1) := by decide +kernel
theorem dX7_noOrder_9 : decode cX7_noOrder 9 = .ok (.invokestatic 88, 3) := by decide +kernel
theorem dX7_noOrder_12 : decode cX7_noOrder 12 = .ok (.ifCond .eq 7, 3) := by decide +kernel
theorem dX7_noOrder_15 : decode cX7_noOrder 15 = .ok (.iconst 0, 1) := by decide +kernel
theorem dX7_noOrder_16 : decode cX7_noOrder 16 = .ok (.goto 4, 3) := by decide +kernel
theorem dX7_noOrder_19 : decode cX7_noOrder 19 = .ok (.iconst 1, 1) := by decide +kernel
theorem dX7_noOrder_20 : decode cX7_noOrder 20 = .ok (.putfield 84, 3) := by decide +kernel
theorem dX7_noOrder_23 : decode cX7_noOrder 23 = .ok (.aload_n 0, 1) := by decide +kernel
theorem dX7_noOrder_24 : decode cX7_noOrder 24 = .ok (.getfield 84, 3) := by decide +kernel
theorem dX7_noOrder_27 : decode cX7_noOrder 27 = .ok (.ifCond .eq 7, 3) := by decide +kernel
theorem dX7_noOrder_30 : decode cX7_noOrder 30 = .ok (.iconst 1, 1) := by decide +kernel
theorem dX7_noOrder_31 : decode cX7_noOrder 31 = .ok (.goto 4, 3) := by decide +kernel
theorem dX7_noOrder_34 : decode cX7_noOrder 34 = .ok (.iconst 0, 1) := by decide +kernel
theorem dX7_noOrder_35 : decode cX7_noOrder 35 = .ok (.ireturn, 1) := by decide +kernel
set_option maxRecDepth 20000 in
theorem ggX7_noDye_X7_isIn : GoodIn wsX7_noDye wsX7_isIn := goodIn_r _ [5] (by decide +kernel) (by decide +kernel)
set_option maxRecDepth 20000 in
theorem gX7_noDye_X7_isIn : GoodIn wsX7_noDye (va_wsS RX7 88 yX7_isIn wsX7_isIn) := goodIn_app (goodIn_of _ (by decide +kernel)) ggX7_noDye_X7_isIn
theorem dX7_noDye_0 : decode cX7_noDye 0 = .ok (.aload_n 0, 1) := by decide +kernel
theorem dX7_noDye_1 : decode cX7_noDye 1 = .ok (.iload_n 1, 1) := by decide +kernel
theorem dX7_noDye_2 : decode cX7_noDye 2 = .ok (.iconst 0, 1) := by decide +kernel
theorem dX7_noDye_3 : decode cX7_noDye 3 = .ok (.iconst 2, 1) := by decide +kernel
theorem dX7_noDye_4 : decode cX7_noDye 4 = .ok (.invokestatic 88, 3) := by decide +kernel
theorem dX7_noDye_7 : decode cX7_noDye 7 = .ok (.ifCond .eq 7, 3) := by decide +kernel
theorem dX7_noDye_10 : decode cX7_noDye 10 = .ok (.iconst 0, 1) := by decide +kernel
theorem dX7_noDye_11 : decode cX7_noDye 11 = .ok (.goto 4, 3) := by decide +kernel
theorem dX7_noDye_14 : decode cX7_noDye 14 = .ok (.iconst 1, 1) := by decide +kernel
theorem dX7_noDye_15 : decode cX7_noDye 15 = .ok (.putfield 84, 3) := by decide +kernel
theorem dX7_noDye_18 : decode cX7_noDye 18 = .ok (.aload_n 0, 1) := by decide +kernel
theorem dX7_noDye_19 : decode cX7_noDye 19 = .ok (.getfield 84, 3) := by decide +kernel
theorem dX7_noDye_22 : decode cX7_noDye 22 = .ok (.ifCond .eq 7, 3) := by decide +kernel
theorem dX7_noDye_25 : decode cX7_noDye 25 = .ok (.iconst 1, 1) := by decide +kernel
theorem dX7_noDye_26 : decode cX7_noDye 26 = .ok (.goto 4, 3) := by decide +kernel
theorem dX7_noDye_29 : decode cX7_noDye 29 = .ok (.iconst 0, 1) := by decide +kernel
theorem dX7_noDye_30 : decode cX7_noDye 30 = .ok (.ireturn, 1) := by decide +kernel
set_option maxRecDepth 20000 in
theorem ggX7_addRecipe_X7_isShade : GoodIn wsX7_addRecipe wsX7_isShade := goodIn_r _ [7, 8, 9, 6, 10] (by decide +kernel) (by decide +kernel)
set_option maxRecDepth 20000 in
theorem gX7_addRecipe_X7_isShade : GoodIn wsX7_addRecipe (va_wsS RX7 101 yX7_isShade wsX7_isShade) := goodIn_app (goodIn_of _ (by decide +kernel)) ggX7_addRecipe_X7_isShade
set_option maxRecDepth 20000 in
theorem ggX7_addRecipe_X7_refuse : GoodIn wsX7_addRecipe wsX7_refuse := goodIn_r _ [14, 2, 15, 16, 17, 18, 19, 20, 21, 22, 23, 24, 25, 26, 27, 28, 29, 30, 31, 32, 33, 34, 35, 36, 37, 38, 39, 40, 41, 42, 43] (by decide +kernel) (by decide +kernel)
set_option maxRecDepth 20000 in
theorem gX7_addRecipe_X7_refuse : GoodIn wsX7_addRecipe (wsV RX7 104 RX7 yX7_refuse wsX7_refuse) := goodIn_app (goodIn_of _ (by decide +kernel)) ggX7_addRecipe_X7_refuse
theorem dX7_addRecipe_0 : decode cX7_addRecipe 0 = .ok (.iload_n 1, 1) := by decide +kernel
theorem dX7_addRecipe_1 : decode cX7_addRecipe 1 = .ok (.iload_n 2, 1) := by decide +kernel
theorem dX7_addRecipe_2 : decode cX7_addRecipe 2 = .ok (.iload_n 3, 1) := by decide +kernel
theorem dX7_addRecipe_3 : decode cX7_addRecipe 3 = .ok (.invokestatic 101, 3) := by decide +kernel
theorem dX7_addRecipe_6 : decode cX7_addRecipe 6 = .ok (.ifCond .ne 9, 3) := by decide +kernel
theorem dX7_addRecipe_9 : decode cX7_addRecipe 9 = .ok (.aload_n 0, 1) := by decide +kernel
theorem dX7_addRecipe_10 : decode cX7_addRecipe 10 = .ok (.iconst 1, 1) := by decide +kernel
theorem dX7_addRecipe_11 : decode cX7_addRecipe 11 = .ok (.invokevirtual 104, 3) := by decide +kernel
theorem dX7_addRecipe_14 : decode cX7_addRecipe 14 = .ok (.ireturn, 1) := by decide +kernel
theorem dX7_addRecipe_15 : decode cX7_addRecipe 15 = .ok (.aload_n 0, 1) := by decide +kernel
theorem dX7_addRecipe_16 : decode cX7_addRecipe 16 = .ok (.getfield 108, 3) := by decide +kernel
theorem dX7_addRecipe_19 : decode cX7_addRecipe 19 = .ok (.bipush 8, 2) := by decide +kernel
theorem dX7_addRecipe_21 : decode cX7_addRecipe 21 = .ok (.if_icmp .ne 9, 3) := by decide +kernel
theorem dX7_addRecipe_24 : decode cX7_addRecipe 24 = .ok (.aload_n 0, 1) := by decide +kernel
theorem dX7_addRecipe_25 : decode cX7_addRecipe 25 = .ok (.iconst 2, 1) := by decide +kernel
theorem dX7_addRecipe_26 : decode cX7_addRecipe 26 = .ok (.invokevirtual 104, 3) := by decide +kernel
theorem dX7_addRecipe_29 : decode cX7_addRecipe 29 = .ok (.ireturn, 1) := by decide +kernel
theorem dX7_addRecipe_30 : decode cX7_addRecipe 30 = .ok (.aload_n 0, 1) := by decide +kernel
theorem dX7_addRecipe_31 : decode cX7_addRecipe 31 = .ok (.iconst 0, 1) := by decide +kernel
theorem dX7_addRecipe_32 : decode cX7_addRecipe 32 = .ok (.putfield 84, 3) := by decide +kernel
theorem dX7_addRecipe_35 : decode cX7_addRecipe 35 = .ok (.aload_n 0, 1) := by decide +kernel
theorem dX7_addRecipe_36 : decode cX7_addRecipe 36 = .ok (.getfield 7, 3) := by decide +kernel
theorem dX7_addRecipe_39 : decode cX7_addRecipe 39 = .ok (.iconst 3, 1) := by decide +kernel
theorem dX7_addRecipe_40 : decode cX7_addRecipe 40 = .ok (.aload_n 0, 1) := by decide +kernel
theorem dX7_addRecipe_41 : decode cX7_addRecipe 41 = .ok (.getfield 108, 3) := by decide +kernel
theorem dX7_addRecipe_44 : decode cX7_addRecipe 44 = .ok (.imul, 1) := by decide +kernel
theorem dX7_addRecipe_45 : decode cX7_addRecipe 45 = .ok (.iload_n 1, 1) := by decide +kernel
theorem dX7_addRecipe_46 : decode cX7_addRecipe 46 = .ok (.iastore, 1) := by decide +kernel
theorem dX7_addRecipe_47 : decode cX7_addRecipe 47 = .ok (.aload_n 0, 1) := by decide +kernel
theorem dX7_addRecipe_48 : decode cX7_addRecipe 48 = .ok (.getfield 7, 3) := by decide +kernel
theorem dX7_addRecipe_51 : decode cX7_addRecipe 51 = .ok (.iconst 3, 1) := by decide +kernel
theorem dX7_addRecipe_52 : decode cX7_addRecipe 52 = .ok (.aload_n 0, 1) := by decide +kernel
theorem dX7_addRecipe_53 : decode cX7_addRecipe 53 = .ok (.getfield 108, 3) := by decide +kernel
theorem dX7_addRecipe_56 : decode cX7_addRecipe 56 = .ok (.imul, 1) := by decide +kernel
theorem dX7_addRecipe_57 : decode cX7_addRecipe 57 = .ok (.iconst 1, 1) := by decide +kernel
theorem dX7_addRecipe_58 : decode cX7_addRecipe 58 = .ok (.iadd, 1) := by decide +kernel
theorem dX7_addRecipe_59 : decode cX7_addRecipe 59 = .ok (.iload_n 2, 1) := by decide +kernel
theorem dX7_addRecipe_60 : decode cX7_addRecipe 60 = .ok (.iastore, 1) := by decide +kernel
theorem dX7_addRecipe_61 : decode cX7_addRecipe 61 = .ok (.aload_n 0, 1) := by decide +kernel
theorem dX7_addRecipe_62 : decode cX7_addRecipe 62 = .ok (.getfield 7, 3) := by decide +kernel
theorem dX7_addRecipe_65 : decode cX7_addRecipe 65 = .ok (.iconst 3, 1) := by decide +kernel
theorem dX7_addRecipe_66 : decode cX7_addRecipe 66 = .ok (.aload_n 0, 1) := by decide +kernel
theorem dX7_addRecipe_67 : decode cX7_addRecipe 67 = .ok (.getfield 108, 3) := by decide +kernel
theorem dX7_addRecipe_70 : decode cX7_addRecipe 70 = .ok (.imul, 1) := by decide +kernel
theorem dX7_addRecipe_71 : decode cX7_addRecipe 71 = .ok (.iconst 2, 1) := by decide +kernel
theorem dX7_addRecipe_72 : decode cX7_addRecipe 72 = .ok (.iadd, 1) := by decide +kernel
theorem dX7_addRecipe_73 : decode cX7_addRecipe 73 = .ok (.iload_n 3, 1) := by decide +kernel
theorem dX7_addRecipe_74 : decode cX7_addRecipe 74 = .ok (.iastore, 1) := by decide +kernel
theorem dX7_addRecipe_75 : decode cX7_addRecipe 75 = .ok (.aload_n 0, 1) := by decide +kernel
theorem dX7_addRecipe_76 : decode cX7_addRecipe 76 = .ok (.dup, 1) := by decide +kernel
theorem dX7_addRecipe_77 : decode cX7_addRecipe 77 = .ok (.getfield 108, 3) := by decide +kernel
theorem dX7_addRecipe_80 : decode cX7_addRecipe 80 = .ok (.dup_x1, 1) := by decide +kernel
theorem dX7_addRecipe_81 : decode cX7_addRecipe 81 = .ok (.iconst 1, 1) := by decide +kernel
theorem dX7_addRecipe_82 : decode cX7_addRecipe 82 = .ok (.iadd, 1) := by decide +kernel
theorem dX7_addRecipe_83 : decode cX7_addRecipe 83 = .ok (.putfield 108, 3) := by decide +kernel
theorem dX7_addRecipe_86 : decode cX7_addRecipe 86 = .ok (.ireturn, 1) := by decide +kernel
set_option maxRecDepth 20000 in
theorem ggX7_setDye_X7_isIn : GoodIn wsX7_setDye wsX7_isIn := goodIn_r _ [7] (by decide +kernel) (by decide +kernel)
set_option maxRecDepth 20000 in
theorem gX7_setDye_X7_isIn : GoodIn wsX7_setDye (va_wsS RX7 88 yX7_isIn wsX7_isIn) := goodIn_app (goodIn_of _ (by decide +kernel)) ggX7_setDye_X7_isIn
set_option maxRecDepth 20000 in
theorem ggX7_setDye_X7_refuse : GoodIn wsX7_setDye wsX7_refuse := goodIn_r _ [11, 2, 12, 13, 14, 15, 16, 17, 18, 19, 20, 21, 22, 23, 24, 25, 26, 27, 28, 29, 30, 31, 32, 33, 34, 35, 36, 37, 38, 39, 40] (by decide +kernel) (by decide +kernel)
set_option maxRecDepth 20000 in
theorem gX7_setDye_X7_refuse : GoodIn wsX7_setDye (wsV RX7 104 RX7 yX7_refuse wsX7_refuse) := goodIn_app (goodIn_of _ (by decide +kernel)) ggX7_setDye_X7_refuse
theorem dX7_setDye_0 : decode cX7_setDye 0 = .ok (.iload_n 1, 1) := by decide +kernel
theorem dX7_setDye_1 : decode cX7_setDye 1 = .ok (.iconst 0, 1) := by decide +kernel
theorem dX7_setDye_2 : decode cX7_setDye 2 = .ok (.aload_n 0, 1) := by decide +kernel
theorem dX7_setDye_3 : decode cX7_setDye 3 = .ok (.getfield 108, 3) := by decide +kernel
theorem dX7_setDye_6 : decode cX7_setDye 6 = .ok (.iconst 1, 1) := by decide +kernel
theorem dX7_setDye_7 : decode cX7_setDye 7 = .ok (.isub, 1) := by decide +kernel
theorem dX7_setDye_8 : decode cX7_setDye 8 = .ok (.invokestatic 88, 3) := by decide +kernel
theorem dX7_setDye_11 : decode cX7_setDye 11 = .ok (.ifCond .ne 9, 3) := by decide +kernel
theorem dX7_setDye_14 : decode cX7_setDye 14 = .ok (.aload_n 0, 1) := by decide +kernel
theorem dX7_setDye_15 : decode cX7_setDye 15 = .ok (.iconst 1, 1) := by decide +kernel
theorem dX7_setDye_16 : decode cX7_setDye 16 = .ok (.invokevirtual 104, 3) := by decide +kernel
theorem dX7_setDye_19 : decode cX7_setDye 19 = .ok (.ireturn, 1) := by decide +kernel
theorem dX7_setDye_20 : decode cX7_setDye 20 = .ok (.iload_n 2, 1) := by decide +kernel
theorem dX7_setDye_21 : decode cX7_setDye 21 = .ok (.iconst 0, 1) := by decide +kernel
theorem dX7_setDye_22 : decode cX7_setDye 22 = .ok (.iconst 2, 1) := by decide +kernel
theorem dX7_setDye_23 : decode cX7_setDye 23 = .ok (.invokestatic 88, 3) := by decide +kernel
theorem dX7_setDye_26 : decode cX7_setDye 26 = .ok (.ifCond .eq 14, 3) := by decide +kernel
theorem dX7_setDye_29 : decode cX7_setDye 29 = .ok (.iload_n 3, 1) := by decide +kernel
theorem dX7_setDye_30 : decode cX7_setDye 30 = .ok (.iconst 0, 1) := by decide +kernel
theorem dX7_setDye_31 : decode cX7_setDye 31 = .ok (.sipush 5000, 3) := by decide +kernel
theorem dX7_setDye_34 : decode cX7_setDye 34 = .ok (.invokestatic 88, 3) := by decide +kernel
theorem dX7_setDye_37 : decode cX7_setDye 37 = .ok (.ifCond .ne 9, 3) := by decide +kernel
theorem dX7_setDye_40 : decode cX7_setDye 40 = .ok (.aload_n 0, 1) := by decide +kernel
theorem dX7_setDye_41 : decode cX7_setDye 41 = .ok (.iconst 2, 1) := by decide +kernel
theorem dX7_setDye_42 : decode cX7_setDye 42 = .ok (.invokevirtual 104, 3) := by decide +kernel
theorem dX7_setDye_45 : decode cX7_setDye 45 = .ok (.ireturn, 1) := by decide +kernel
theorem dX7_setDye_46 : decode cX7_setDye 46 = .ok (.aload_n 0, 1) := by decide +kernel
theorem dX7_setDye_47 : decode cX7_setDye 47 = .ok (.iconst 0, 1) := by decide +kernel
theorem dX7_setDye_48 : decode cX7_setDye 48 = .ok (.putfield 84, 3) := by decide +kernel
theorem dX7_setDye_51 : decode cX7_setDye 51 = .ok (.aload_n 0, 1) := by decide +kernel
theorem dX7_setDye_52 : decode cX7_setDye 52 = .ok (.getfield 13, 3) := by decide +kernel
theorem dX7_setDye_55 : decode cX7_setDye 55 = .ok (.iconst 3, 1) := by decide +kernel
theorem dX7_setDye_56 : decode cX7_setDye 56 = .ok (.iload_n 1, 1) := by decide +kernel
theorem dX7_setDye_57 : decode cX7_setDye 57 = .ok (.imul, 1) := by decide +kernel
theorem dX7_setDye_58 : decode cX7_setDye 58 = .ok (.iload_n 2, 1) := by decide +kernel
theorem dX7_setDye_59 : decode cX7_setDye 59 = .ok (.iadd, 1) := by decide +kernel
theorem dX7_setDye_60 : decode cX7_setDye 60 = .ok (.iaload, 1) := by decide +kernel
theorem dX7_setDye_61 : decode cX7_setDye 61 = .ok (.istore 4, 2) := by decide +kernel
theorem dX7_setDye_63 : decode cX7_setDye 63 = .ok (.aload_n 0, 1) := by decide +kernel
theorem dX7_setDye_64 : decode cX7_setDye 64 = .ok (.getfield 13, 3) := by decide +kernel
theorem dX7_setDye_67 : decode cX7_setDye 67 = .ok (.iconst 3, 1) := by decide +kernel
theorem dX7_setDye_68 : decode cX7_setDye 68 = .ok (.iload_n 1, 1) := by decide +kernel
theorem dX7_setDye_69 : decode cX7_setDye 69 = .ok (.imul, 1) := by decide +kernel
theorem dX7_setDye_70 : decode cX7_setDye 70 = .ok (.iload_n 2, 1) := by decide +kernel
theorem dX7_setDye_71 : decode cX7_setDye 71 = .ok (.iadd, 1) := by decide +kernel
theorem dX7_setDye_72 : decode cX7_setDye 72 = .ok (.iload_n 3, 1) := by decide +kernel
theorem dX7_setDye_73 : decode cX7_setDye 73 = .ok (.iastore, 1) := by decide +kernel
theorem dX7_setDye_74 : decode cX7_setDye 74 = .ok (.iload 4, 2) := by decide +kernel
theorem dX7_setDye_76 : decode cX7_setDye 76 = .ok (.ireturn, 1) := by decide +kernel
set_option maxRecDepth 20000 in
theorem ggX7_supply_X7_isIn : GoodIn wsX7_supply wsX7_isIn := goodIn_r _ [8] (by decide +kernel) (by decide +kernel)
set_option maxRecDepth 20000 in
theorem gX7_supply_X7_isIn : GoodIn wsX7_supply (va_wsS RX7 88 yX7_isIn wsX7_isIn) := goodIn_app (goodIn_of _ (by decide +kernel)) ggX7_supply_X7_isIn
set_option maxRecDepth 20000 in
theorem ggX7_supply_X7_refuse : GoodIn wsX7_supply wsX7_refuse := goodIn_r _ [12, 4, 13, 14, 15, 16, 17, 18, 19, 20, 21, 22, 23, 24, 25, 26, 27, 28, 29, 30, 31, 32, 33, 34, 35, 36, 37, 38, 39, 40, 41] (by decide +kernel) (by decide +kernel)
set_option maxRecDepth 20000 in
theorem gX7_supply_X7_refuse : GoodIn wsX7_supply (wsV RX7 104 RX7 yX7_refuse wsX7_refuse) := goodIn_app (goodIn_of _ (by decide +kernel)) ggX7_supply_X7_refuse
theorem dX7_supply_0 : decode cX7_supply 0 = .ok (.iload_n 1, 1) := by decide +kernel
theorem dX7_supply_1 : decode cX7_supply 1 = .ok (.iconst 0, 1) := by decide +kernel
theorem dX7_supply_2 : decode cX7_supply 2 = .ok (.iconst 2, 1) := by decide +kernel
theorem dX7_supply_3 : decode cX7_supply 3 = .ok (.invokestatic 88, 3) := by decide +kernel
theorem dX7_supply_6 : decode cX7_supply 6 = .ok (.ifCond .eq 13, 3) := by decide +kernel
theorem dX7_supply_9 : decode cX7_supply 9 = .ok (.iload_n 2, 1) := by decide +kernel
theorem dX7_supply_10 : decode cX7_supply 10 = .ok (.iconst 1, 1) := by decide +kernel
theorem dX7_supply_11 : decode cX7_supply 11 = .ok (.ldc 111, 2) := by decide +kernel
theorem dX7_supply_13 : decode cX7_supply 13 = .ok (.invokestatic 88, 3) := by decide +kernel
theorem dX7_supply_16 : decode cX7_supply 16 = .ok (.ifCond .ne 9, 3) := by decide +kernel
theorem dX7_supply_19 : decode cX7_supply 19 = .ok (.aload_n 0, 1) := by decide +kernel
theorem dX7_supply_20 : decode cX7_supply 20 = .ok (.iconst 1, 1) := by decide +kernel
theorem dX7_supply_21 : decode cX7_supply 21 = .ok (.invokevirtual 104, 3) := by decide +kernel
theorem dX7_supply_24 : decode cX7_supply 24 = .ok (.ireturn, 1) := by decide +kernel
theorem dX7_supply_25 : decode cX7_supply 25 = .ok (.aload_n 0, 1) := by decide +kernel
theorem dX7_supply_26 : decode cX7_supply 26 = .ok (.getfield 16, 3) := by decide +kernel
theorem dX7_supply_29 : decode cX7_supply 29 = .ok (.iload_n 1, 1) := by decide +kernel
theorem dX7_supply_30 : decode cX7_supply 30 = .ok (.iaload, 1) := by decide +kernel
theorem dX7_supply_31 : decode cX7_supply 31 = .ok (.iload_n 2, 1) := by decide +kernel
theorem dX7_supply_32 : decode cX7_supply 32 = .ok (.iadd, 1) := by decide +kernel
theorem dX7_supply_33 : decode cX7_supply 33 = .ok (.ldc 112, 2) := by decide +kernel
theorem dX7_supply_35 : decode cX7_supply 35 = .ok (.if_icmp .le 9, 3) := by decide +kernel
theorem dX7_supply_38 : decode cX7_supply 38 = .ok (.aload_n 0, 1) := by decide +kernel
theorem dX7_supply_39 : decode cX7_supply 39 = .ok (.iconst 2, 1) := by decide +kernel
theorem dX7_supply_40 : decode cX7_supply 40 = .ok (.invokevirtual 104, 3) := by decide +kernel
theorem dX7_supply_43 : decode cX7_supply 43 = .ok (.ireturn, 1) := by decide +kernel
theorem dX7_supply_44 : decode cX7_supply 44 = .ok (.aload_n 0, 1) := by decide +kernel
theorem dX7_supply_45 : decode cX7_supply 45 = .ok (.iconst 0, 1) := by decide +kernel
theorem dX7_supply_46 : decode cX7_supply 46 = .ok (.putfield 84, 3) := by decide +kernel
theorem dX7_supply_49 : decode cX7_supply 49 = .ok (.aload_n 0, 1) := by decide +kernel
theorem dX7_supply_50 : decode cX7_supply 50 = .ok (.getfield 16, 3) := by decide +kernel
theorem dX7_supply_53 : decode cX7_supply 53 = .ok (.iload_n 1, 1) := by decide +kernel
theorem dX7_supply_54 : decode cX7_supply 54 = .ok (.dup2, 1) := by decide +kernel
theorem dX7_supply_55 : decode cX7_supply 55 = .ok (.iaload, 1) := by decide +kernel
theorem dX7_supply_56 : decode cX7_supply 56 = .ok (.iload_n 2, 1) := by decide +kernel
theorem dX7_supply_57 : decode cX7_supply 57 = .ok (.iadd, 1) := by decide +kernel
theorem dX7_supply_58 : decode cX7_supply 58 = .ok (.iastore, 1) := by decide +kernel
theorem dX7_supply_59 : decode cX7_supply 59 = .ok (.aload_n 0, 1) := by decide +kernel
theorem dX7_supply_60 : decode cX7_supply 60 = .ok (.getfield 16, 3) := by decide +kernel
theorem dX7_supply_63 : decode cX7_supply 63 = .ok (.iload_n 1, 1) := by decide +kernel
theorem dX7_supply_64 : decode cX7_supply 64 = .ok (.iaload, 1) := by decide +kernel
theorem dX7_supply_65 : decode cX7_supply 65 = .ok (.ireturn, 1) := by decide +kernel
set_option maxRecDepth 20000 in
theorem ggX7_stock_X7_noDye : GoodIn wsX7_stock wsX7_noDye := goodIn_r _ [6, 7, 8, 9, 5, 10, 11, 12, 13, 14, 15, 16, 17, 18, 19, 20, 21, 22, 23, 24, 25, 26, 27, 28, 29, 30, 31, 32, 33, 34, 35, 36, 37, 38, 39] (by decide +kernel) (by decide +kernel)
set_option maxRecDepth 20000 in
theorem gX7_stock_X7_noDye : GoodIn wsX7_stock (wsV RX7 113 RX7 yX7_noDye wsX7_noDye) := goodIn_app (goodIn_of _ (by decide +kernel)) ggX7_stock_X7_noDye
theorem dX7_stock_0 : decode cX7_stock 0 = .ok (.aload_n 0, 1) := by decide +kernel
theorem dX7_stock_1 : decode cX7_stock 1 = .ok (.iload_n 1, 1) := by decide +kernel
theorem dX7_stock_2 : decode cX7_stock 2 = .ok (.invokevirtual 113, 3) := by decide +kernel
theorem dX7_stock_5 : decode cX7_stock 5 = .ok (.ifCond .eq 7, 3) := by decide +kernel
theorem dX7_stock_8 : decode cX7_stock 8 = .ok (.iconst 0, 1) := by decide +kernel
theorem dX7_stock_9 : decode cX7_stock 9 = .ok (.goto 9, 3) := by decide +kernel
theorem dX7_stock_12 : decode cX7_stock 12 = .ok (.aload_n 0, 1) := by decide +kernel
theorem dX7_stock_13 : decode cX7_stock 13 = .ok (.getfield 16, 3) := by decide +kernel
theorem dX7_stock_16 : decode cX7_stock 16 = .ok (.iload_n 1, 1) := by decide +kernel
theorem dX7_stock_17 : decode cX7_stock 17 = .ok (.iaload, 1) := by decide +kernel
theorem dX7_stock_18 : decode cX7_stock 18 = .ok (.ireturn, 1) := by decide +kernel
set_option maxRecDepth 20000 in
theorem ggX7_addOrder_X7_isIn : GoodIn wsX7_addOrder wsX7_isIn := goodIn_r _ [12] (by decide +kernel) (by decide +kernel)
set_option maxRecDepth 20000 in
theorem gX7_addOrder_X7_isIn : GoodIn wsX7_addOrder (va_wsS RX7 88 yX7_isIn wsX7_isIn) := goodIn_app (goodIn_of _ (by decide +kernel)) ggX7_addOrder_X7_isIn
set_option maxRecDepth 20000 in
theorem ggX7_addOrder_X7_refuse : GoodIn wsX7_addOrder wsX7_refuse := goodIn_r _ [16, 3, 17, 18, 19, 20, 21, 22, 23, 24, 25, 26, 27, 28, 29, 30, 31, 32, 33, 34, 35, 36, 37, 38, 39, 40, 41, 42, 43, 44, 45] (by decide +kernel) (by decide +kernel)
set_option maxRecDepth 20000 in
theorem gX7_addOrder_X7_refuse : GoodIn wsX7_addOrder (wsV RX7 104 RX7 yX7_refuse wsX7_refuse) := goodIn_app (goodIn_of _ (by decide +kernel)) ggX7_addOrder_X7_refuse
theorem dX7_addOrder_0 : decode cX7_addOrder 0 = .ok (.iload_n 2, 1) := by decide +kernel
theorem dX7_addOrder_1 : decode cX7_addOrder 1 = .ok (.iconst 0, 1) := by decide +kernel
theorem dX7_addOrder_2 : decode cX7_addOrder 2 = .ok (.aload_n 0, 1) := by decide +kernel
theorem dX7_addOrder_3 : decode cX7_addOrder 3 = .ok (.getfield 108, 3) := by decide +kernel
theorem dX7_addOrder_6 : decode cX7_addOrder 6 = .ok (.iconst 1, 1) := by decide +kernel
theorem dX7_addOrder_7 : decode cX7_addOrder 7 = .ok (.isub, 1) := by decide +kernel
theorem dX7_addOrder_8 : decode cX7_addOrder 8 = .ok (.invokestatic 88, 3) := by decide +kernel
theorem dX7_addOrder_11 : decode cX7_addOrder 11 = .ok (.ifCond .ne 9, 3) := by decide +kernel
theorem dX7_addOrder_14 : decode cX7_addOrder 14 = .ok (.aload_n 0, 1) := by decide +kernel
theorem dX7_addOrder_15 : decode cX7_addOrder 15 = .ok (.iconst 1, 1) := by decide +kernel
theorem dX7_addOrder_16 : decode cX7_addOrder 16 = .ok (.invokevirtual 104, 3) := by decide +kernel
theorem dX7_addOrder_19 : decode cX7_addOrder 19 = .ok (.ireturn, 1) := by decide +kernel
theorem dX7_addOrder_20 : decode cX7_addOrder 20 = .ok (.iload_n 1, 1) := by decide +kernel
theorem dX7_addOrder_21 : decode cX7_addOrder 21 = .ok (.iconst 0, 1) := by decide +kernel
theorem dX7_addOrder_22 : decode cX7_addOrder 22 = .ok (.iconst 3, 1) := by decide +kernel
theorem dX7_addOrder_23 : decode cX7_addOrder 23 = .ok (.invokestatic 88, 3) := by decide +kernel
theorem dX7_addOrder_26 : decode cX7_addOrder 26 = .ok (.ifCond .eq 35, 3) := by decide +kernel
theorem dX7_addOrder_29 : decode cX7_addOrder 29 = .ok (.iload_n 3, 1) := by decide +kernel
theorem dX7_addOrder_30 : decode cX7_addOrder 30 = .ok (.iconst 0, 1) := by decide +kernel
theorem dX7_addOrder_31 : decode cX7_addOrder 31 = .ok (.bipush 30, 2) := by decide +kernel
theorem dX7_addOrder_33 : decode cX7_addOrder 33 = .ok (.invokestatic 88, 3) := by decide +kernel
theorem dX7_addOrder_36 : decode cX7_addOrder 36 = .ok (.ifCond .eq 25, 3) := by decide +kernel
theorem dX7_addOrder_39 : decode cX7_addOrder 39 = .ok (.iload 4, 2) := by decide +kernel
theorem dX7_addOrder_41 : decode cX7_addOrder 41 = .ok (.iconst 0, 1) := by decide +kernel
theorem dX7_addOrder_42 : decode cX7_addOrder 42 = .ok (.bipush 99, 2) := by decide +kernel
theorem dX7_addOrder_44 : decode cX7_addOrder 44 = .ok (.invokestatic 88, 3) := by decide +kernel
theorem dX7_addOrder_47 : decode cX7_addOrder 47 = .ok (.ifCond .eq 14, 3) := by decide +kernel
theorem dX7_addOrder_50 : decode cX7_addOrder 50 = .ok (.iload 5, 2) := by decide +kernel
theorem dX7_addOrder_52 : decode cX7_addOrder 52 = .ok (.iconst 0, 1) := by decide +kernel
theorem dX7_addOrder_53 : decode cX7_addOrder 53 = .ok (.bipush 99, 2) := by decide +kernel
theorem dX7_addOrder_55 : decode cX7_addOrder 55 = .ok (.invokestatic 88, 3) := by decide +kernel
theorem dX7_addOrder_58 : decode cX7_addOrder 58 = .ok (.ifCond .ne 9, 3) := by decide +kernel
theorem dX7_addOrder_61 : decode cX7_addOrder 61 = .ok (.aload_n 0, 1) := by decide +kernel
theorem dX7_addOrder_62 : decode cX7_addOrder 62 = .ok (.iconst 2, 1) := by decide +kernel
theorem dX7_addOrder_63 : decode cX7_addOrder 63 = .ok (.invokevirtual 104, 3) := by decide +kernel
theorem dX7_addOrder_66 : decode cX7_addOrder 66 = .ok (.ireturn, 1) := by decide +kernel
theorem dX7_addOrder_67 : decode cX7_addOrder 67 = .ok (.aload_n 0, 1) := by decide +kernel
theorem dX7_addOrder_68 : decode cX7_addOrder 68 = .ok (.getfield 98, 3) := by decide +kernel
theorem dX7_addOrder_71 : decode cX7_addOrder 71 = .ok (.bipush 6, 2) := by decide +kernel
theorem dX7_addOrder_73 : decode cX7_addOrder 73 = .ok (.if_icmp .ne 9, 3) := by decide +kernel
theorem dX7_addOrder_76 : decode cX7_addOrder 76 = .ok (.aload_n 0, 1) := by decide +kernel
theorem dX7_addOrder_77 : decode cX7_addOrder 77 = .ok (.iconst 3, 1) := by decide +kernel
theorem dX7_addOrder_78 : decode cX7_addOrder 78 = .ok (.invokevirtual 104, 3) := by decide +kernel
theorem dX7_addOrder_81 : decode cX7_addOrder 81 = .ok (.ireturn, 1) := by decide +kernel
theorem dX7_addOrder_82 : decode cX7_addOrder 82 = .ok (.aload_n 0, 1) := by decide +kernel
theorem dX7_addOrder_83 : decode cX7_addOrder 83 = .ok (.iconst 0, 1) := by decide +kernel
theorem dX7_addOrder_84 : decode cX7_addOrder 84 = .ok (.putfield 84, 3) := by decide +kernel
theorem dX7_addOrder_87 : decode cX7_addOrder 87 = .ok (.aload_n 0, 1) := by decide +kernel
theorem dX7_addOrder_88 : decode cX7_addOrder 88 = .ok (.getfield 23, 3) := by decide +kernel
theorem dX7_addOrder_91 : decode cX7_addOrder 91 = .ok (.aload_n 0, 1) := by decide +kernel
theorem dX7_addOrder_92 : decode cX7_addOrder 92 = .ok (.getfield 98, 3) := by decide +kernel
theorem dX7_addOrder_95 : decode cX7_addOrder 95 = .ok (.iload_n 1, 1) := by decide +kernel
theorem dX7_addOrder_96 : decode cX7_addOrder 96 = .ok (.iastore, 1) := by decide +kernel
theorem dX7_addOrder_97 : decode cX7_addOrder 97 = .ok (.aload_n 0, 1) := by decide +kernel
theorem dX7_addOrder_98 : decode cX7_addOrder 98 = .ok (.getfield 26, 3) := by decide +kernel
theorem dX7_addOrder_101 : decode cX7_addOrder 101 = .ok (.aload_n 0, 1) := by decide +kernel
theorem dX7_addOrder_102 : decode cX7_addOrder 102 = .ok (.getfield 98, 3) := by decide +kernel
theorem dX7_addOrder_105 : decode cX7_addOrder 105 = .ok (.iload_n 2, 1) := by decide +kernel
theorem dX7_addOrder_106 : decode cX7_addOrder 106 = .ok (.iastore, 1) := by decide +kernel
theorem dX7_addOrder_107 : decode cX7_addOrder 107 = .ok (.aload_n 0, 1) := by decide +kernel
theorem dX7_addOrder_108 : decode cX7_addOrder 108 = .ok (.getfield 29, 3) := by decide +kernel
theorem dX7_addOrder_111 : decode cX7_addOrder 111 = .ok (.aload_n 0, 1) := by decide +kernel
theorem dX7_addOrder_112 : decode cX7_addOrder 112 = .ok (.getfield 98, 3) := by decide +kernel
theorem dX7_addOrder_115 : decode cX7_addOrder 115 = .ok (.iload_n 3, 1) := by decide +kernel
theorem dX7_addOrder_116 : decode cX7_addOrder 116 = .ok (.iastore, 1) := by decide +kernel
theorem dX7_addOrder_117 : decode cX7_addOrder 117 = .ok (.aload_n 0, 1) := by decide +kernel
theorem dX7_addOrder_118 : decode cX7_addOrder 118 = .ok (.getfield 32, 3) := by decide +kernel
theorem dX7_addOrder_121 : decode cX7_addOrder 121 = .ok (.aload_n 0, 1) := by decide +kernel
theorem dX7_addOrder_122 : decode cX7_addOrder 122 = .ok (.getfield 98, 3) := by decide +kernel
theorem dX7_addOrder_125 : decode cX7_addOrder 125 = .ok (.iload 4, 2) := by decide +kernel
theorem dX7_addOrder_127 : decode cX7_addOrder 127 = .ok (.iastore, 1) := by decide +kernel
theorem dX7_addOrder_128 : decode cX7_addOrder 128 = .ok (.aload_n 0, 1) := by decide +kernel
theorem dX7_addOrder_129 : decode cX7_addOrder 129 = .ok (.getfield 35, 3) := by decide +kernel
theorem dX7_addOrder_132 : decode cX7_addOrder 132 = .ok (.aload_n 0, 1) := by decide +kernel
theorem dX7_addOrder_133 : decode cX7_addOrder 133 = .ok (.getfield 98, 3) := by decide +kernel
theorem dX7_addOrder_136 : decode cX7_addOrder 136 = .ok (.iload 5, 2) := by decide +kernel
theorem dX7_addOrder_138 : decode cX7_addOrder 138 = .ok (.iastore, 1) := by decide +kernel
theorem dX7_addOrder_139 : decode cX7_addOrder 139 = .ok (.aload_n 0, 1) := by decide +kernel
theorem dX7_addOrder_140 : decode cX7_addOrder 140 = .ok (.dup, 1) := by decide +kernel
theorem dX7_addOrder_141 : decode cX7_addOrder 141 = .ok (.getfield 98, 3) := by decide +kernel
theorem dX7_addOrder_144 : decode cX7_addOrder 144 = .ok (.dup_x1, 1) := by decide +kernel
theorem dX7_addOrder_145 : decode cX7_addOrder 145 = .ok (.iconst 1, 1) := by decide +kernel
theorem dX7_addOrder_146 : decode cX7_addOrder 146 = .ok (.iadd, 1) := by decide +kernel
theorem dX7_addOrder_147 : decode cX7_addOrder 147 = .ok (.putfield 98, 3) := by decide +kernel
theorem dX7_addOrder_150 : decode cX7_addOrder 150 = .ok (.ireturn, 1) := by decide +kernel
set_option maxRecDepth 20000 in
theorem ggX7_addLot_X7_noOrder : GoodIn wsX7_addLot wsX7_noOrder := goodIn_r _ [10, 11, 12, 13, 14, 9, 15, 20, 21, 22, 23, 24, 25, 26, 27, 28, 29, 30, 31, 32, 33, 34, 35, 36, 37, 38, 39, 40, 41, 42, 43, 44, 45, 46, 47, 48] (by decide +kernel) (by decide +kernel)
set_option maxRecDepth 20000 in
theorem gX7_addLot_X7_noOrder : GoodIn wsX7_addLot (wsV RX7 117 RX7 yX7_noOrder wsX7_noOrder) := goodIn_app (goodIn_of _ (by decide +kernel)) ggX7_addLot_X7_noOrder
set_option maxRecDepth 20000 in
theorem ggX7_addLot_X7_isIn : GoodIn wsX7_addLot wsX7_isIn := goodIn_r _ [15] (by decide +kernel) (by decide +kernel)
set_option maxRecDepth 20000 in
theorem gX7_addLot_X7_isIn : GoodIn wsX7_addLot (va_wsS RX7 88 yX7_isIn wsX7_isIn) := goodIn_app (goodIn_of _ (by decide +kernel)) ggX7_addLot_X7_isIn
set_option maxRecDepth 20000 in
theorem ggX7_addLot_X7_refuse : GoodIn wsX7_addLot wsX7_refuse := goodIn_r _ [19, 12, 20, 21, 22, 23, 24, 25, 26, 27, 28, 29, 30, 31, 32, 33, 34, 35, 36, 37, 38, 39, 40, 41, 42, 43, 44, 45, 46, 47, 48] (by decide +kernel) (by decide +kernel)
set_option maxRecDepth 20000 in
theorem gX7_addLot_X7_refuse : GoodIn wsX7_addLot (wsV RX7 104 RX7 yX7_refuse wsX7_refuse) := goodIn_app (goodIn_of _ (by decide +kernel)) ggX7_addLot_X7_refuse
theorem dX7_addLot_0 : decode cX7_addLot 0 = .ok (.aload_n 0, 1) := by decide +kernel
theorem dX7_addLot_1 : decode cX7_addLot 1 = .ok (.iload_n 1, 1) := by decide +kernel
theorem dX7_addLot_2 : decode cX7_addLot 2 = .ok (.invokevirtual 117, 3) := by decide +kernel
theorem dX7_addLot_5 : decode cX7_addLot 5 = .ok (.ifCond .eq 5, 3) := by decide +kernel
theorem dX7_addLot_8 : decode cX7_addLot 8 = .ok (.iconst 0, 1) := by decide +kernel
theorem dX7_addLot_9 : decode cX7_addLot 9 = .ok (.ireturn, 1) := by decide +kernel
theorem dX7_addLot_10 : decode cX7_addLot 10 = .ok (.iload_n 2, 1) := by decide +kernel
theorem dX7_addLot_11 : decode cX7_addLot 11 = .ok (.iconst 1, 1) := by decide +kernel
theorem dX7_addLot_12 : decode cX7_addLot 12 = .ok (.sipush 200, 3) := by decide +kernel
theorem dX7_addLot_15 : decode cX7_addLot 15 = .ok (.invokestatic 88, 3) := by decide +kernel
theorem dX7_addLot_18 : decode cX7_addLot 18 = .ok (.ifCond .ne 9, 3) := by decide +kernel
theorem dX7_addLot_21 : decode cX7_addLot 21 = .ok (.aload_n 0, 1) := by decide +kernel
theorem dX7_addLot_22 : decode cX7_addLot 22 = .ok (.iconst 2, 1) := by decide +kernel
theorem dX7_addLot_23 : decode cX7_addLot 23 = .ok (.invokevirtual 104, 3) := by decide +kernel
theorem dX7_addLot_26 : decode cX7_addLot 26 = .ok (.ireturn, 1) := by decide +kernel
theorem dX7_addLot_27 : decode cX7_addLot 27 = .ok (.aload_n 0, 1) := by decide +kernel
theorem dX7_addLot_28 : decode cX7_addLot 28 = .ok (.getfield 92, 3) := by decide +kernel
theorem dX7_addLot_31 : decode cX7_addLot 31 = .ok (.bipush 24, 2) := by decide +kernel
theorem dX7_addLot_33 : decode cX7_addLot 33 = .ok (.if_icmp .ne 9, 3) := by decide +kernel
theorem dX7_addLot_36 : decode cX7_addLot 36 = .ok (.aload_n 0, 1) := by decide +kernel
theorem dX7_addLot_37 : decode cX7_addLot 37 = .ok (.iconst 3, 1) := by decide +kernel
theorem dX7_addLot_38 : decode cX7_addLot 38 = .ok (.invokevirtual 104, 3) := by decide +kernel
theorem dX7_addLot_41 : decode cX7_addLot 41 = .ok (.ireturn, 1) := by decide +kernel
theorem dX7_addLot_42 : decode cX7_addLot 42 = .ok (.aload_n 0, 1) := by decide +kernel
theorem dX7_addLot_43 : decode cX7_addLot 43 = .ok (.getfield 38, 3) := by decide +kernel
theorem dX7_addLot_46 : decode cX7_addLot 46 = .ok (.aload_n 0, 1) := by decide +kernel
theorem dX7_addLot_47 : decode cX7_addLot 47 = .ok (.getfield 92, 3) := by decide +kernel
theorem dX7_addLot_50 : decode cX7_addLot 50 = .ok (.iload_n 1, 1) := by decide +kernel
theorem dX7_addLot_51 : decode cX7_addLot 51 = .ok (.iastore, 1) := by decide +kernel
theorem dX7_addLot_52 : decode cX7_addLot 52 = .ok (.aload_n 0, 1) := by decide +kernel
theorem dX7_addLot_53 : decode cX7_addLot 53 = .ok (.getfield 41, 3) := by decide +kernel
theorem dX7_addLot_56 : decode cX7_addLot 56 = .ok (.aload_n 0, 1) := by decide +kernel
theorem dX7_addLot_57 : decode cX7_addLot 57 = .ok (.getfield 92, 3) := by decide +kernel
theorem dX7_addLot_60 : decode cX7_addLot 60 = .ok (.iload_n 2, 1) := by decide +kernel
theorem dX7_addLot_61 : decode cX7_addLot 61 = .ok (.iastore, 1) := by decide +kernel
theorem dX7_addLot_62 : decode cX7_addLot 62 = .ok (.aload_n 0, 1) := by decide +kernel
theorem dX7_addLot_63 : decode cX7_addLot 63 = .ok (.getfield 59, 3) := by decide +kernel
theorem dX7_addLot_66 : decode cX7_addLot 66 = .ok (.aload_n 0, 1) := by decide +kernel
theorem dX7_addLot_67 : decode cX7_addLot 67 = .ok (.getfield 92, 3) := by decide +kernel
theorem dX7_addLot_70 : decode cX7_addLot 70 = .ok (.bipush 119, 2) := by decide +kernel
theorem dX7_addLot_72 : decode cX7_addLot 72 = .ok (.castore, 1) := by decide +kernel
theorem dX7_addLot_73 : decode cX7_addLot 73 = .ok (.aload_n 0, 1) := by decide +kernel
theorem dX7_addLot_74 : decode cX7_addLot 74 = .ok (.getfield 56, 3) := by decide +kernel
theorem dX7_addLot_77 : decode cX7_addLot 77 = .ok (.aload_n 0, 1) := by decide +kernel
theorem dX7_addLot_78 : decode cX7_addLot 78 = .ok (.getfield 92, 3) := by decide +kernel
theorem dX7_addLot_81 : decode cX7_addLot 81 = .ok (.iconst (-1), 1) := by decide +kernel
theorem dX7_addLot_82 : decode cX7_addLot 82 = .ok (.iastore, 1) := by decide +kernel
theorem dX7_addLot_83 : decode cX7_addLot 83 = .ok (.aload_n 0, 1) := by decide +kernel
theorem dX7_addLot_84 : decode cX7_addLot 84 = .ok (.dup, 1) := by decide +kernel
theorem dX7_addLot_85 : decode cX7_addLot 85 = .ok (.getfield 92, 3) := by decide +kernel
theorem dX7_addLot_88 : decode cX7_addLot 88 = .ok (.dup_x1, 1) := by decide +kernel
theorem dX7_addLot_89 : decode cX7_addLot 89 = .ok (.iconst 1, 1) := by decide +kernel
theorem dX7_addLot_90 : decode cX7_addLot 90 = .ok (.iadd, 1) := by decide +kernel
theorem dX7_addLot_91 : decode cX7_addLot 91 = .ok (.putfield 92, 3) := by decide +kernel
theorem dX7_addLot_94 : decode cX7_addLot 94 = .ok (.ireturn, 1) := by decide +kernel
set_option maxRecDepth 20000 in
theorem ggX7_addVat_X7_isIn : GoodIn wsX7_addVat wsX7_isIn := goodIn_r _ [9] (by decide +kernel) (by decide +kernel)
set_option maxRecDepth 20000 in
theorem gX7_addVat_X7_isIn : GoodIn wsX7_addVat (va_wsS RX7 88 yX7_isIn wsX7_isIn) := goodIn_app (goodIn_of _ (by decide +kernel)) ggX7_addVat_X7_isIn
set_option maxRecDepth 20000 in
theorem ggX7_addVat_X7_refuse : GoodIn wsX7_addVat wsX7_refuse := goodIn_r _ [13, 2, 14, 15, 16, 17, 18, 19, 20, 21, 22, 23, 24, 25, 26, 27, 28, 29, 30, 31, 32, 33, 34, 35, 36, 37, 38, 39, 40, 41, 42] (by decide +kernel) (by decide +kernel)
set_option maxRecDepth 20000 in
theorem gX7_addVat_X7_refuse : GoodIn wsX7_addVat (wsV RX7 104 RX7 yX7_refuse wsX7_refuse) := goodIn_app (goodIn_of _ (by decide +kernel)) ggX7_addVat_X7_refuse
theorem dX7_addVat_0 : decode cX7_addVat 0 = .ok (.iload_n 1, 1) := by decide +kernel
theorem dX7_addVat_1 : decode cX7_addVat 1 = .ok (.bipush 10, 2) := by decide +kernel
theorem dX7_addVat_3 : decode cX7_addVat 3 = .ok (.sipush 300, 3) := by decide +kernel
theorem dX7_addVat_6 : decode cX7_addVat 6 = .ok (.invokestatic 88, 3) := by decide +kernel
theorem dX7_addVat_9 : decode cX7_addVat 9 = .ok (.ifCond .ne 9, 3) := by decide +kernel
theorem dX7_addVat_12 : decode cX7_addVat 12 = .ok (.aload_n 0, 1) := by decide +kernel
theorem dX7_addVat_13 : decode cX7_addVat 13 = .ok (.iconst 1, 1) := by decide +kernel
theorem dX7_addVat_14 : decode cX7_addVat 14 = .ok (.invokevirtual 104, 3) := by decide +kernel
theorem dX7_addVat_17 : decode cX7_addVat 17 = .ok (.ireturn, 1) := by decide +kernel
theorem dX7_addVat_18 : decode cX7_addVat 18 = .ok (.aload_n 0, 1) := by decide +kernel
theorem dX7_addVat_19 : decode cX7_addVat 19 = .ok (.getfield 95, 3) := by decide +kernel
theorem dX7_addVat_22 : decode cX7_addVat 22 = .ok (.iconst 4, 1) := by decide +kernel
theorem dX7_addVat_23 : decode cX7_addVat 23 = .ok (.if_icmp .ne 9, 3) := by decide +kernel
theorem dX7_addVat_26 : decode cX7_addVat 26 = .ok (.aload_n 0, 1) := by decide +kernel
theorem dX7_addVat_27 : decode cX7_addVat 27 = .ok (.iconst 2, 1) := by decide +kernel
theorem dX7_addVat_28 : decode cX7_addVat 28 = .ok (.invokevirtual 104, 3) := by decide +kernel
theorem dX7_addVat_31 : decode cX7_addVat 31 = .ok (.ireturn, 1) := by decide +kernel
theorem dX7_addVat_32 : decode cX7_addVat 32 = .ok (.aload_n 0, 1) := by decide +kernel
theorem dX7_addVat_33 : decode cX7_addVat 33 = .ok (.iconst 0, 1) := by decide +kernel
theorem dX7_addVat_34 : decode cX7_addVat 34 = .ok (.putfield 84, 3) := by decide +kernel
theorem dX7_addVat_37 : decode cX7_addVat 37 = .ok (.aload_n 0, 1) := by decide +kernel
theorem dX7_addVat_38 : decode cX7_addVat 38 = .ok (.getfield 63, 3) := by decide +kernel
theorem dX7_addVat_41 : decode cX7_addVat 41 = .ok (.aload_n 0, 1) := by decide +kernel
theorem dX7_addVat_42 : decode cX7_addVat 42 = .ok (.getfield 95, 3) := by decide +kernel
theorem dX7_addVat_45 : decode cX7_addVat 45 = .ok (.iload_n 1, 1) := by decide +kernel
theorem dX7_addVat_46 : decode cX7_addVat 46 = .ok (.iastore, 1) := by decide +kernel
theorem dX7_addVat_47 : decode cX7_addVat 47 = .ok (.aload_n 0, 1) := by decide +kernel
theorem dX7_addVat_48 : decode cX7_addVat 48 = .ok (.getfield 66, 3) := by decide +kernel
theorem dX7_addVat_51 : decode cX7_addVat 51 = .ok (.aload_n 0, 1) := by decide +kernel
theorem dX7_addVat_52 : decode cX7_addVat 52 = .ok (.getfield 95, 3) := by decide +kernel
theorem dX7_addVat_55 : decode cX7_addVat 55 = .ok (.iconst (-1), 1) := by decide +kernel
theorem dX7_addVat_56 : decode cX7_addVat 56 = .ok (.iastore, 1) := by decide +kernel
theorem dX7_addVat_57 : decode cX7_addVat 57 = .ok (.aload_n 0, 1) := by decide +kernel
theorem dX7_addVat_58 : decode cX7_addVat 58 = .ok (.getfield 69, 3) := by decide +kernel
theorem dX7_addVat_61 : decode cX7_addVat 61 = .ok (.aload_n 0, 1) := by decide +kernel
theorem dX7_addVat_62 : decode cX7_addVat 62 = .ok (.getfield 95, 3) := by decide +kernel
theorem dX7_addVat_65 : decode cX7_addVat 65 = .ok (.iconst (-1), 1) := by decide +kernel
theorem dX7_addVat_66 : decode cX7_addVat 66 = .ok (.iastore, 1) := by decide +kernel
theorem dX7_addVat_67 : decode cX7_addVat 67 = .ok (.aload_n 0, 1) := by decide +kernel
theorem dX7_addVat_68 : decode cX7_addVat 68 = .ok (.dup, 1) := by decide +kernel
theorem dX7_addVat_69 : decode cX7_addVat 69 = .ok (.getfield 95, 3) := by decide +kernel
theorem dX7_addVat_72 : decode cX7_addVat 72 = .ok (.dup_x1, 1) := by decide +kernel
theorem dX7_addVat_73 : decode cX7_addVat 73 = .ok (.iconst 1, 1) := by decide +kernel
theorem dX7_addVat_74 : decode cX7_addVat 74 = .ok (.iadd, 1) := by decide +kernel
theorem dX7_addVat_75 : decode cX7_addVat 75 = .ok (.putfield 95, 3) := by decide +kernel
theorem dX7_addVat_78 : decode cX7_addVat 78 = .ok (.ireturn, 1) := by decide +kernel
theorem dX7_needed_0 : decode cX7_needed 0 = .ok (.aload_n 0, 1) := by decide +kernel
theorem dX7_needed_1 : decode cX7_needed 1 = .ok (.getfield 13, 3) := by decide +kernel
theorem dX7_needed_4 : decode cX7_needed 4 = .ok (.iconst 3, 1) := by decide +kernel
theorem dX7_needed_5 : decode cX7_needed 5 = .ok (.aload_n 0, 1) := by decide +kernel
theorem dX7_needed_6 : decode cX7_needed 6 = .ok (.getfield 26, 3) := by decide +kernel
theorem dX7_needed_9 : decode cX7_needed 9 = .ok (.aload_n 0, 1) := by decide +kernel
theorem dX7_needed_10 : decode cX7_needed 10 = .ok (.getfield 38, 3) := by decide +kernel
theorem dX7_needed_13 : decode cX7_needed 13 = .ok (.iload_n 1, 1) := by decide +kernel
theorem dX7_needed_14 : decode cX7_needed 14 = .ok (.iaload, 1) := by decide +kernel
theorem dX7_needed_15 : decode cX7_needed 15 = .ok (.iaload, 1) := by decide +kernel
theorem dX7_needed_16 : decode cX7_needed 16 = .ok (.imul, 1) := by decide +kernel
theorem dX7_needed_17 : decode cX7_needed 17 = .ok (.iload_n 2, 1) := by decide +kernel
theorem dX7_needed_18 : decode cX7_needed 18 = .ok (.iadd, 1) := by decide +kernel
theorem dX7_needed_19 : decode cX7_needed 19 = .ok (.iaload, 1) := by decide +kernel
theorem dX7_needed_20 : decode cX7_needed 20 = .ok (.aload_n 0, 1) := by decide +kernel
theorem dX7_needed_21 : decode cX7_needed 21 = .ok (.getfield 41, 3) := by decide +kernel
theorem dX7_needed_24 : decode cX7_needed 24 = .ok (.iload_n 1, 1) := by decide +kernel
theorem dX7_needed_25 : decode cX7_needed 25 = .ok (.iaload, 1) := by decide +kernel
theorem dX7_needed_26 : decode cX7_needed 26 = .ok (.imul, 1) := by decide +kernel
theorem dX7_needed_27 : decode cX7_needed 27 = .ok (.bipush 99, 2) := by decide +kernel
theorem dX7_needed_29 : decode cX7_needed 29 = .ok (.iadd, 1) := by decide +kernel
theorem dX7_needed_30 : decode cX7_needed 30 = .ok (.bipush 100, 2) := by decide +kernel
theorem dX7_needed_32 : decode cX7_needed 32 = .ok (.idiv, 1) := by decide +kernel
theorem dX7_needed_33 : decode cX7_needed 33 = .ok (.ireturn, 1) := by decide +kernel
set_option maxRecDepth 20000 in
theorem ggX7_needs_X7_noLot : GoodIn wsX7_needs wsX7_noLot := goodIn_r _ [5, 6, 7, 8, 9, 4, 10, 23, 24, 25, 26, 27, 28, 29, 30, 31, 32, 33, 34, 35, 36, 37, 38, 39, 40, 41, 42, 43, 44, 45, 46, 47, 48, 49, 50, 51] (by decide +kernel) (by decide +kernel)
set_option maxRecDepth 20000 in
theorem gX7_needs_X7_noLot : GoodIn wsX7_needs (wsV RX7 120 RX7 yX7_noLot wsX7_noLot) := goodIn_app (goodIn_of _ (by decide +kernel)) ggX7_needs_X7_noLot
set_option maxRecDepth 20000 in
theorem ggX7_needs_X7_isIn : GoodIn wsX7_needs wsX7_isIn := goodIn_r _ [10] (by decide +kernel) (by decide +kernel)
set_option maxRecDepth 20000 in
theorem gX7_needs_X7_isIn : GoodIn wsX7_needs (va_wsS RX7 88 yX7_isIn wsX7_isIn) := goodIn_app (goodIn_of _ (by decide +kernel)) ggX7_needs_X7_isIn
set_option maxRecDepth 20000 in
theorem ggX7_needs_X7_refuse : GoodIn wsX7_needs wsX7_refuse := goodIn_r _ [14, 7, 23, 24, 25, 26, 27, 28, 29, 30, 31, 32, 33, 34, 35, 36, 37, 38, 39, 40, 41, 42, 43, 44, 45, 46, 47, 48, 49, 50, 51] (by decide +kernel) (by decide +kernel)
set_option maxRecDepth 20000 in
theorem gX7_needs_X7_refuse : GoodIn wsX7_needs (wsV RX7 104 RX7 yX7_refuse wsX7_refuse) := goodIn_app (goodIn_of _ (by decide +kernel)) ggX7_needs_X7_refuse
set_option maxRecDepth 20000 in
theorem ggX7_needs_X7_needed : GoodIn wsX7_needs wsX7_needed := goodIn_ca (goodIn_r _ [18, 19, 20, 21, 22, 23, 24, 25, 26, 27, 28, 29, 30, 31, 32, 33, 34, 35, 36, 37, 38, 39, 40, 41, 42, 43, 44, 45, 46, 47, 48, 49, 50, 51] (by decide +kernel) (by decide +kernel)) (goodIn_sub (fun _ h => List.mem_cons_of_mem _ (List.mem_append_right _ h)) (by decide +kernel))
set_option maxRecDepth 20000 in
theorem gX7_needs_X7_needed : GoodIn wsX7_needs (wsV RX7 123 RX7 yX7_needed wsX7_needed) := goodIn_app (goodIn_of _ (by decide +kernel)) ggX7_needs_X7_needed
theorem dX7_needs_0 : decode cX7_needs 0 = .ok (.aload_n 0, 1) := by decide +kernel
theorem dX7_needs_1 : decode cX7_needs 1 = .ok (.iload_n 1, 1) := by decide +kernel
theorem dX7_needs_2 : decode cX7_needs 2 = .ok (.invokevirtual 120, 3) := by decide +kernel
theorem dX7_needs_5 : decode cX7_needs 5 = .ok (.ifCond .eq 5, 3) := by decide +kernel
theorem dX7_needs_8 : decode cX7_needs 8 = .ok (.iconst 0, 1) := by decide +kernel
theorem dX7_needs_9 : decode cX7_needs 9 = .ok (.ireturn, 1) := by decide +kernel
theorem dX7_needs_10 : decode cX7_needs 10 = .ok (.iload_n 2, 1) := by decide +kernel
theorem dX7_needs_11 : decode cX7_needs 11 = .ok (.iconst 0, 1) := by decide +kernel
theorem dX7_needs_12 : decode cX7_needs 12 = .ok (.iconst 2, 1) := by decide +kernel
theorem dX7_needs_13 : decode cX7_needs 13 = .ok (.invokestatic 88, 3) := by decide +kernel
theorem dX7_needs_16 : decode cX7_needs 16 = .ok (.ifCond .ne 9, 3) := by decide +kernel
theorem dX7_needs_19 : decode cX7_needs 19 = .ok (.aload_n 0, 1) := by decide +kernel
theorem dX7_needs_20 : decode cX7_needs 20 = .ok (.iconst 2, 1) := by decide +kernel
theorem dX7_needs_21 : decode cX7_needs 21 = .ok (.invokevirtual 104, 3) := by decide +kernel
theorem dX7_needs_24 : decode cX7_needs 24 = .ok (.ireturn, 1) := by decide +kernel
theorem dX7_needs_25 : decode cX7_needs 25 = .ok (.aload_n 0, 1) := by decide +kernel
theorem dX7_needs_26 : decode cX7_needs 26 = .ok (.iload_n 1, 1) := by decide +kernel
theorem dX7_needs_27 : decode cX7_needs 27 = .ok (.iload_n 2, 1) := by decide +kernel
theorem dX7_needs_28 : decode cX7_needs 28 = .ok (.invokevirtual 123, 3) := by decide +kernel
theorem dX7_needs_31 : decode cX7_needs 31 = .ok (.ireturn, 1) := by decide +kernel
theorem dX7_hours_0 : decode cX7_hours 0 = .ok (.iconst 4, 1) := by decide +kernel
theorem dX7_hours_1 : decode cX7_hours 1 = .ok (.aload_n 0, 1) := by decide +kernel
theorem dX7_hours_2 : decode cX7_hours 2 = .ok (.getfield 41, 3) := by decide +kernel
theorem dX7_hours_5 : decode cX7_hours 5 = .ok (.iload_n 1, 1) := by decide +kernel
theorem dX7_hours_6 : decode cX7_hours 6 = .ok (.iaload, 1) := by decide +kernel
theorem dX7_hours_7 : decode cX7_hours 7 = .ok (.bipush 49, 2) := by decide +kernel
theorem dX7_hours_9 : decode cX7_hours 9 = .ok (.iadd, 1) := by decide +kernel
theorem dX7_hours_10 : decode cX7_hours 10 = .ok (.bipush 50, 2) := by decide +kernel
theorem dX7_hours_12 : decode cX7_hours 12 = .ok (.idiv, 1) := by decide +kernel
theorem dX7_hours_13 : decode cX7_hours 13 = .ok (.iadd, 1) := by decide +kernel
theorem dX7_hours_14 : decode cX7_hours 14 = .ok (.ireturn, 1) := by decide +kernel
set_option maxRecDepth 20000 in
theorem ggX7_hoursFor_X7_noLot : GoodIn wsX7_hoursFor wsX7_noLot := goodIn_r _ [5, 6, 7, 8, 9, 4, 10, 16, 17, 18, 19, 20, 21, 22, 23, 24, 25, 26, 27, 28, 29, 30, 31, 32, 33, 34, 35, 36, 37, 38, 39, 40, 41, 42, 43, 44] (by decide +kernel) (by decide +kernel)
set_option maxRecDepth 20000 in
theorem gX7_hoursFor_X7_noLot : GoodIn wsX7_hoursFor (wsV RX7 120 RX7 yX7_noLot wsX7_noLot) := goodIn_app (goodIn_of _ (by decide +kernel)) ggX7_hoursFor_X7_noLot
set_option maxRecDepth 20000 in
theorem ggX7_hoursFor_X7_hours : GoodIn wsX7_hoursFor wsX7_hours := goodIn_ca (goodIn_r _ [14, 15, 16, 17, 18, 19, 20, 21, 22, 23, 24, 25, 26, 27, 28, 29, 30, 31, 32, 33, 34, 35, 36, 37, 38, 39, 40, 41, 42, 43, 44] (by decide +kernel) (by decide +kernel)) (goodIn_sub (fun _ h => List.mem_cons_of_mem _ (List.mem_append_right _ h)) (by decide +kernel))
set_option maxRecDepth 20000 in
theorem gX7_hoursFor_X7_hours : GoodIn wsX7_hoursFor (wsV RX7 127 RX7 yX7_hours wsX7_hours) := goodIn_app (goodIn_of _ (by decide +kernel)) ggX7_hoursFor_X7_hours
theorem dX7_hoursFor_0 : decode cX7_hoursFor 0 = .ok (.aload_n 0, 1) := by decide +kernel
theorem dX7_hoursFor_1 : decode cX7_hoursFor 1 = .ok (.iload_n 1, 1) := by decide +kernel
theorem dX7_hoursFor_2 : decode cX7_hoursFor 2 = .ok (.invokevirtual 120, 3) := by decide +kernel
theorem dX7_hoursFor_5 : decode cX7_hoursFor 5 = .ok (.ifCond .eq 7, 3) := by decide +kernel
theorem dX7_hoursFor_8 : decode cX7_hoursFor 8 = .ok (.iconst 0, 1) := by decide +kernel
theorem dX7_hoursFor_9 : decode cX7_hoursFor 9 = .ok (.goto 8, 3) := by decide +kernel
theorem dX7_hoursFor_12 : decode cX7_hoursFor 12 = .ok (.aload_n 0, 1) := by decide +kernel
theorem dX7_hoursFor_13 : decode cX7_hoursFor 13 = .ok (.iload_n 1, 1) := by decide +kernel
theorem dX7_hoursFor_14 : decode cX7_hoursFor 14 = .ok (.invokevirtual 127, 3) := by decide +kernel
theorem dX7_hoursFor_17 : decode cX7_hoursFor 17 = .ok (.ireturn, 1) := by decide +kernel
theorem dX7_lightOf_0 : decode cX7_lightOf 0 = .ok (.aload_n 0, 1) := by decide +kernel
theorem dX7_lightOf_1 : decode cX7_lightOf 1 = .ok (.getfield 7, 3) := by decide +kernel
theorem dX7_lightOf_4 : decode cX7_lightOf 4 = .ok (.iconst 3, 1) := by decide +kernel
theorem dX7_lightOf_5 : decode cX7_lightOf 5 = .ok (.aload_n 0, 1) := by decide +kernel
theorem dX7_lightOf_6 : decode cX7_lightOf 6 = .ok (.getfield 26, 3) := by decide +kernel
theorem dX7_lightOf_9 : decode cX7_lightOf 9 = .ok (.aload_n 0, 1) := by decide +kernel
theorem dX7_lightOf_10 : decode cX7_lightOf 10 = .ok (.getfield 38, 3) := by decide +kernel
theorem dX7_lightOf_13 : decode cX7_lightOf 13 = .ok (.iload_n 1, 1) := by decide +kernel
theorem dX7_lightOf_14 : decode cX7_lightOf 14 = .ok (.iaload, 1) := by decide +kernel
theorem dX7_lightOf_15 : decode cX7_lightOf 15 = .ok (.iaload, 1) := by decide +kernel
theorem dX7_lightOf_16 : decode cX7_lightOf 16 = .ok (.imul, 1) := by decide +kernel
theorem dX7_lightOf_17 : decode cX7_lightOf 17 = .ok (.iaload, 1) := by decide +kernel
theorem dX7_lightOf_18 : decode cX7_lightOf 18 = .ok (.ireturn, 1) := by decide +kernel
set_option maxRecDepth 20000 in
theorem ggX7_why_X7_lightOf : GoodIn wsX7_why wsX7_lightOf := goodIn_ca (goodIn_r _ [13, 14, 15, 7, 21, 22, 23, 24, 25, 26, 27, 28, 29, 30, 31, 32, 33, 34, 35, 36, 37, 38, 39, 40, 41, 42, 43, 44, 45, 46, 47, 48, 49] (by decide +kernel) (by decide +kernel)) (goodIn_sub (fun _ h => List.mem_cons_of_mem _ (List.mem_append_right _ h)) (by decide +kernel))
set_option maxRecDepth 20000 in
theorem gX7_why_X7_lightOf : GoodIn wsX7_why (wsV RX7 130 RX7 yX7_lightOf wsX7_lightOf) := goodIn_app (goodIn_of _ (by decide +kernel)) ggX7_why_X7_lightOf
set_option maxRecDepth 20000 in
theorem ggX7_why_X7_needed : GoodIn wsX7_why wsX7_needed := goodIn_ca (goodIn_r _ [19, 20, 15, 7, 2, 21, 22, 23, 24, 25, 26, 27, 28, 29, 30, 31, 32, 33, 34, 35, 36, 37, 38, 39, 40, 41, 42, 43, 44, 45, 46, 47, 48, 49] (by decide +kernel) (by decide +kernel)) (goodIn_sub (fun _ h => List.mem_cons_of_mem _ (List.mem_append_right _ h)) (by decide +kernel))
set_option maxRecDepth 20000 in
theorem gX7_why_X7_needed : GoodIn wsX7_why (wsV RX7 123 RX7 yX7_needed wsX7_needed) := goodIn_app (goodIn_of _ (by decide +kernel)) ggX7_why_X7_needed
theorem dX7_why_0 : decode cX7_why 0 = .ok (.aload_n 0, 1) := by decide +kernel
theorem dX7_why_1 : decode cX7_why 1 = .ok (.getfield 59, 3) := by decide +kernel
theorem dX7_why_4 : decode cX7_why 4 = .ok (.iload_n 1, 1) := by decide +kernel
theorem dX7_why_5 : decode cX7_why 5 = .ok (.caload, 1) := by decide +kernel
theorem dX7_why_6 : decode cX7_why 6 = .ok (.bipush 119, 2) := by decide +kernel
theorem dX7_why_8 : decode cX7_why 8 = .ok (.if_icmp .eq 6, 3) := by decide +kernel
theorem dX7_why_11 : decode cX7_why 11 = .ok (.bipush 119, 2) := by decide +kernel
theorem dX7_why_13 : decode cX7_why 13 = .ok (.ireturn, 1) := by decide +kernel
theorem dX7_why_14 : decode cX7_why 14 = .ok (.aload_n 0, 1) := by decide +kernel
theorem dX7_why_15 : decode cX7_why 15 = .ok (.getfield 41, 3) := by decide +kernel
theorem dX7_why_18 : decode cX7_why 18 = .ok (.iload_n 1, 1) := by decide +kernel
theorem dX7_why_19 : decode cX7_why 19 = .ok (.iaload, 1) := by decide +kernel
theorem dX7_why_20 : decode cX7_why 20 = .ok (.aload_n 0, 1) := by decide +kernel
theorem dX7_why_21 : decode cX7_why 21 = .ok (.getfield 63, 3) := by decide +kernel
theorem dX7_why_24 : decode cX7_why 24 = .ok (.iload_n 2, 1) := by decide +kernel
theorem dX7_why_25 : decode cX7_why 25 = .ok (.iaload, 1) := by decide +kernel
theorem dX7_why_26 : decode cX7_why 26 = .ok (.if_icmp .le 6, 3) := by decide +kernel
theorem dX7_why_29 : decode cX7_why 29 = .ok (.bipush 104, 2) := by decide +kernel
theorem dX7_why_31 : decode cX7_why 31 = .ok (.ireturn, 1) := by decide +kernel
theorem dX7_why_32 : decode cX7_why 32 = .ok (.aload_n 0, 1) := by decide +kernel
theorem dX7_why_33 : decode cX7_why 33 = .ok (.getfield 66, 3) := by decide +kernel
theorem dX7_why_36 : decode cX7_why 36 = .ok (.iload_n 2, 1) := by decide +kernel
theorem dX7_why_37 : decode cX7_why 37 = .ok (.iaload, 1) := by decide +kernel
theorem dX7_why_38 : decode cX7_why 38 = .ok (.iconst (-1), 1) := by decide +kernel
theorem dX7_why_39 : decode cX7_why 39 = .ok (.if_icmp .eq 20, 3) := by decide +kernel
theorem dX7_why_42 : decode cX7_why 42 = .ok (.aload_n 0, 1) := by decide +kernel
theorem dX7_why_43 : decode cX7_why 43 = .ok (.getfield 66, 3) := by decide +kernel
theorem dX7_why_46 : decode cX7_why 46 = .ok (.iload_n 2, 1) := by decide +kernel
theorem dX7_why_47 : decode cX7_why 47 = .ok (.iaload, 1) := by decide +kernel
theorem dX7_why_48 : decode cX7_why 48 = .ok (.aload_n 0, 1) := by decide +kernel
theorem dX7_why_49 : decode cX7_why 49 = .ok (.iload_n 1, 1) := by decide +kernel
theorem dX7_why_50 : decode cX7_why 50 = .ok (.invokevirtual 130, 3) := by decide +kernel
theorem dX7_why_53 : decode cX7_why 53 = .ok (.if_icmp .ge 6, 3) := by decide +kernel
theorem dX7_why_56 : decode cX7_why 56 = .ok (.bipush 115, 2) := by decide +kernel
theorem dX7_why_58 : decode cX7_why 58 = .ok (.ireturn, 1) := by decide +kernel
theorem dX7_why_59 : decode cX7_why 59 = .ok (.aload_n 0, 1) := by decide +kernel
theorem dX7_why_60 : decode cX7_why 60 = .ok (.getfield 69, 3) := by decide +kernel
theorem dX7_why_63 : decode cX7_why 63 = .ok (.iload_n 2, 1) := by decide +kernel
theorem dX7_why_64 : decode cX7_why 64 = .ok (.iaload, 1) := by decide +kernel
theorem dX7_why_65 : decode cX7_why 65 = .ok (.iconst (-1), 1) := by decide +kernel
theorem dX7_why_66 : decode cX7_why 66 = .ok (.if_icmp .eq 26, 3) := by decide +kernel
theorem dX7_why_69 : decode cX7_why 69 = .ok (.aload_n 0, 1) := by decide +kernel
theorem dX7_why_70 : decode cX7_why 70 = .ok (.getfield 69, 3) := by decide +kernel
theorem dX7_why_73 : decode cX7_why 73 = .ok (.iload_n 2, 1) := by decide +kernel
theorem dX7_why_74 : decode cX7_why 74 = .ok (.iaload, 1) := by decide +kernel
theorem dX7_why_75 : decode cX7_why 75 = .ok (.aload_n 0, 1) := by decide +kernel
theorem dX7_why_76 : decode cX7_why 76 = .ok (.getfield 23, 3) := by decide +kernel
theorem dX7_why_79 : decode cX7_why 79 = .ok (.aload_n 0, 1) := by decide +kernel
theorem dX7_why_80 : decode cX7_why 80 = .ok (.getfield 38, 3) := by decide +kernel
theorem dX7_why_83 : decode cX7_why 83 = .ok (.iload_n 1, 1) := by decide +kernel
theorem dX7_why_84 : decode cX7_why 84 = .ok (.iaload, 1) := by decide +kernel
theorem dX7_why_85 : decode cX7_why 85 = .ok (.iaload, 1) := by decide +kernel
theorem dX7_why_86 : decode cX7_why 86 = .ok (.if_icmp .eq 6, 3) := by decide +kernel
theorem dX7_why_89 : decode cX7_why 89 = .ok (.bipush 98, 2) := by decide +kernel
theorem dX7_why_91 : decode cX7_why 91 = .ok (.ireturn, 1) := by decide +kernel
theorem dX7_why_92 : decode cX7_why 92 = .ok (.iconst 0, 1) := by decide +kernel
theorem dX7_why_93 : decode cX7_why 93 = .ok (.istore_n 3, 1) := by decide +kernel
theorem dX7_why_94 : decode cX7_why 94 = .ok (.iload_n 3, 1) := by decide +kernel
theorem dX7_why_95 : decode cX7_why 95 = .ok (.iconst 3, 1) := by decide +kernel
theorem dX7_why_96 : decode cX7_why 96 = .ok (.if_icmp .ge 27, 3) := by decide +kernel
theorem dX7_why_99 : decode cX7_why 99 = .ok (.aload_n 0, 1) := by decide +kernel
theorem dX7_why_100 : decode cX7_why 100 = .ok (.getfield 16, 3) := by decide +kernel
theorem dX7_why_103 : decode cX7_why 103 = .ok (.iload_n 3, 1) := by decide +kernel
theorem dX7_why_104 : decode cX7_why 104 = .ok (.iaload, 1) := by decide +kernel
theorem dX7_why_105 : decode cX7_why 105 = .ok (.aload_n 0, 1) := by decide +kernel
theorem dX7_why_106 : decode cX7_why 106 = .ok (.iload_n 1, 1) := by decide +kernel
theorem dX7_why_107 : decode cX7_why 107 = .ok (.iload_n 3, 1) := by decide +kernel
theorem dX7_why_108 : decode cX7_why 108 = .ok (.invokevirtual 123, 3) := by decide +kernel
theorem dX7_why_111 : decode cX7_why 111 = .ok (.if_icmp .ge 6, 3) := by decide +kernel
theorem dX7_why_114 : decode cX7_why 114 = .ok (.bipush 103, 2) := by decide +kernel
theorem dX7_why_116 : decode cX7_why 116 = .ok (.ireturn, 1) := by decide +kernel
theorem dX7_why_117 : decode cX7_why 117 = .ok (.iinc 3 1, 3) := by decide +kernel
theorem dX7_why_120 : decode cX7_why 120 = .ok (.goto (-26), 3) := by decide +kernel
theorem dX7_why_123 : decode cX7_why 123 = .ok (.bipush 45, 2) := by decide +kernel
theorem dX7_why_125 : decode cX7_why 125 = .ok (.ireturn, 1) := by decide +kernel
set_option maxRecDepth 20000 in
theorem ggX7_reason_X7_noLot : GoodIn wsX7_reason wsX7_noLot := goodIn_r _ [5, 6, 7, 8, 9, 4, 10, 39, 40, 41, 42, 43, 44, 45, 46, 47, 48, 49, 50, 51, 52, 53, 54, 55, 56, 57, 58, 59, 60, 61, 62, 63, 64, 65, 66, 67] (by decide +kernel) (by decide +kernel)
set_option maxRecDepth 20000 in
theorem gX7_reason_X7_noLot : GoodIn wsX7_reason (wsV RX7 120 RX7 yX7_noLot wsX7_noLot) := goodIn_app (goodIn_of _ (by decide +kernel)) ggX7_reason_X7_noLot
set_option maxRecDepth 20000 in
theorem ggX7_reason_X7_noVat : GoodIn wsX7_reason wsX7_noVat := goodIn_r _ [14, 15, 7, 8, 9, 4, 10, 39, 40, 41, 42, 43, 44, 45, 46, 47, 48, 49, 50, 51, 52, 53, 54, 55, 56, 57, 58, 59, 60, 61, 62, 63, 64, 65, 66, 67] (by decide +kernel) (by decide +kernel)
set_option maxRecDepth 20000 in
theorem gX7_reason_X7_noVat : GoodIn wsX7_reason (wsV RX7 133 RX7 yX7_noVat wsX7_noVat) := goodIn_app (goodIn_of _ (by decide +kernel)) ggX7_reason_X7_noVat
set_option maxRecDepth 20000 in
theorem ggX7_reason_X7_why : GoodIn wsX7_reason wsX7_why := goodIn_ca (goodIn_r _ [19, 20, 21, 22, 23, 24, 25, 26, 27, 28, 29, 30, 4, 31, 32, 33, 34, 35, 36, 37, 38, 39, 40, 41, 42, 43, 44, 45, 46, 47, 48, 49, 50, 51, 52, 53, 54, 55, 56, 57, 58, 59, 60, 61, 62, 63, 64, 65, 66, 67] (by decide +kernel) (by decide +kernel)) (goodIn_sub (fun _ h => List.mem_cons_of_mem _ (List.mem_append_right _ h)) (by decide +kernel))
set_option maxRecDepth 20000 in
theorem gX7_reason_X7_why : GoodIn wsX7_reason (wsV RX7 136 RX7 yX7_why wsX7_why) := goodIn_app (goodIn_of _ (by decide +kernel)) ggX7_reason_X7_why
theorem dX7_reason_0 : decode cX7_reason 0 = .ok (.aload_n 0, 1) := by decide +kernel
theorem dX7_reason_1 : decode cX7_reason 1 = .ok (.iload_n 1, 1) := by decide +kernel
theorem dX7_reason_2 : decode cX7_reason 2 = .ok (.invokevirtual 120, 3) := by decide +kernel
theorem dX7_reason_5 : decode cX7_reason 5 = .ok (.ifCond .ne 11, 3) := by decide +kernel
theorem dX7_reason_8 : decode cX7_reason 8 = .ok (.aload_n 0, 1) := by decide +kernel
theorem dX7_reason_9 : decode cX7_reason 9 = .ok (.iload_n 2, 1) := by decide +kernel
theorem dX7_reason_10 : decode cX7_reason 10 = .ok (.invokevirtual 133, 3) := by decide +kernel
theorem dX7_reason_13 : decode cX7_reason 13 = .ok (.ifCond .eq 8, 3) := by decide +kernel
theorem dX7_reason_16 : decode cX7_reason 16 = .ok (.bipush 45, 2) := by decide +kernel
theorem dX7_reason_18 : decode cX7_reason 18 = .ok (.goto 9, 3) := by decide +kernel
theorem dX7_reason_21 : decode cX7_reason 21 = .ok (.aload_n 0, 1) := by decide +kernel
theorem dX7_reason_22 : decode cX7_reason 22 = .ok (.iload_n 1, 1) := by decide +kernel
theorem dX7_reason_23 : decode cX7_reason 23 = .ok (.iload_n 2, 1) := by decide +kernel
theorem dX7_reason_24 : decode cX7_reason 24 = .ok (.invokevirtual 136, 3) := by decide +kernel
theorem dX7_reason_27 : decode cX7_reason 27 = .ok (.ireturn, 1) := by decide +kernel
set_option maxRecDepth 20000 in
theorem ggX7_dye_X7_noLot : GoodIn wsX7_dye wsX7_noLot := goodIn_r _ [16, 17, 18, 19, 20, 15, 21, 58, 59, 60, 61, 62, 63, 64, 65, 66, 67, 68, 69, 70, 71, 72, 73, 74, 75, 76, 77, 78, 79, 80, 81, 82, 83, 84, 85, 86] (by decide +kernel) (by decide +kernel)
set_option maxRecDepth 20000 in
theorem gX7_dye_X7_noLot : GoodIn wsX7_dye (wsV RX7 120 RX7 yX7_noLot wsX7_noLot) := goodIn_app (goodIn_of _ (by decide +kernel)) ggX7_dye_X7_noLot
set_option maxRecDepth 20000 in
theorem ggX7_dye_X7_noVat : GoodIn wsX7_dye wsX7_noVat := goodIn_r _ [25, 26, 18, 19, 20, 15, 21, 58, 59, 60, 61, 62, 63, 64, 65, 66, 67, 68, 69, 70, 71, 72, 73, 74, 75, 76, 77, 78, 79, 80, 81, 82, 83, 84, 85, 86] (by decide +kernel) (by decide +kernel)
set_option maxRecDepth 20000 in
theorem gX7_dye_X7_noVat : GoodIn wsX7_dye (wsV RX7 133 RX7 yX7_noVat wsX7_noVat) := goodIn_app (goodIn_of _ (by decide +kernel)) ggX7_dye_X7_noVat
set_option maxRecDepth 20000 in
theorem ggX7_dye_X7_isShade : GoodIn wsX7_dye wsX7_isShade := goodIn_r _ [29, 19, 20, 15, 21] (by decide +kernel) (by decide +kernel)
set_option maxRecDepth 20000 in
theorem gX7_dye_X7_isShade : GoodIn wsX7_dye (va_wsS RX7 101 yX7_isShade wsX7_isShade) := goodIn_app (goodIn_of _ (by decide +kernel)) ggX7_dye_X7_isShade
set_option maxRecDepth 20000 in
theorem ggX7_dye_X7_refuse : GoodIn wsX7_dye wsX7_refuse := goodIn_r _ [33, 18, 58, 59, 60, 61, 62, 63, 64, 65, 66, 67, 68, 69, 70, 71, 72, 73, 74, 75, 76, 77, 78, 79, 80, 81, 82, 83, 84, 85, 86] (by decide +kernel) (by decide +kernel)
set_option maxRecDepth 20000 in
theorem gX7_dye_X7_refuse : GoodIn wsX7_dye (wsV RX7 104 RX7 yX7_refuse wsX7_refuse) := goodIn_app (goodIn_of _ (by decide +kernel)) ggX7_dye_X7_refuse
set_option maxRecDepth 20000 in
theorem ggX7_dye_X7_why : GoodIn wsX7_dye wsX7_why := goodIn_ca (goodIn_r _ [37, 4, 38, 39, 7, 40, 41, 42, 1, 43, 44, 45, 15, 46, 47, 48, 49, 50, 51, 52, 53, 58, 59, 60, 61, 62, 63, 64, 65, 66, 67, 68, 69, 70, 71, 72, 73, 74, 75, 76, 77, 78, 79, 80, 81, 82, 83, 84, 85, 86] (by decide +kernel) (by decide +kernel)) (goodIn_sub (fun _ h => List.mem_cons_of_mem _ (List.mem_append_right _ h)) (by decide +kernel))
set_option maxRecDepth 20000 in
theorem gX7_dye_X7_why : GoodIn wsX7_dye (wsV RX7 136 RX7 yX7_why wsX7_why) := goodIn_app (goodIn_of _ (by decide +kernel)) ggX7_dye_X7_why
set_option maxRecDepth 20000 in
theorem ggX7_dye_X7_needed : GoodIn wsX7_dye wsX7_needed := goodIn_ca (goodIn_r _ [52, 53, 48, 42, 38, 58, 59, 60, 61, 62, 63, 64, 65, 66, 67, 68, 69, 70, 71, 72, 73, 74, 75, 76, 77, 78, 79, 80, 81, 82, 83, 84, 85, 86] (by decide +kernel) (by decide +kernel)) (goodIn_sub (fun _ h => List.mem_cons_of_mem _ (List.mem_append_right _ h)) (by decide +kernel))
set_option maxRecDepth 20000 in
theorem gX7_dye_X7_needed : GoodIn wsX7_dye (wsV RX7 123 RX7 yX7_needed wsX7_needed) := goodIn_app (goodIn_of _ (by decide +kernel)) ggX7_dye_X7_needed
set_option maxRecDepth 20000 in
theorem ggX7_dye_X7_hours : GoodIn wsX7_dye wsX7_hours := goodIn_ca (goodIn_r _ [57, 38, 58, 59, 60, 61, 62, 63, 64, 65, 66, 67, 68, 69, 70, 71, 72, 73, 74, 75, 76, 77, 78, 79, 80, 81, 82, 83, 84, 85, 86] (by decide +kernel) (by decide +kernel)) (goodIn_sub (fun _ h => List.mem_cons_of_mem _ (List.mem_append_right _ h)) (by decide +kernel))
set_option maxRecDepth 20000 in
theorem gX7_dye_X7_hours : GoodIn wsX7_dye (wsV RX7 127 RX7 yX7_hours wsX7_hours) := goodIn_app (goodIn_of _ (by decide +kernel)) ggX7_dye_X7_hours
theorem dX7_dye_0 : decode cX7_dye 0 = .ok (.aload_n 0, 1) := by decide +kernel
theorem dX7_dye_1 : decode cX7_dye 1 = .ok (.iload_n 1, 1) := by decide +kernel
theorem dX7_dye_2 : decode cX7_dye 2 = .ok (.invokevirtual 120, 3) := by decide +kernel
theorem dX7_dye_5 : decode cX7_dye 5 = .ok (.ifCond .ne 11, 3) := by decide +kernel
theorem dX7_dye_8 : decode cX7_dye 8 = .ok (.aload_n 0, 1) := by decide +kernel
theorem dX7_dye_9 : decode cX7_dye 9 = .ok (.iload_n 2, 1) := by decide +kernel
theorem dX7_dye_10 : decode cX7_dye 10 = .ok (.invokevirtual 133, 3) := by decide +kernel
theorem dX7_dye_13 : decode cX7_dye 13 = .ok (.ifCond .eq 5, 3) := by decide +kernel
theorem dX7_dye_16 : decode cX7_dye 16 = .ok (.iconst 0, 1) := by decide +kernel
theorem dX7_dye_17 : decode cX7_dye 17 = .ok (.ireturn, 1) := by decide +kernel
theorem dX7_dye_18 : decode cX7_dye 18 = .ok (.iload_n 3, 1) := by decide +kernel
theorem dX7_dye_19 : decode cX7_dye 19 = .ok (.iload 4, 2) := by decide +kernel
theorem dX7_dye_21 : decode cX7_dye 21 = .ok (.iload 5, 2) := by decide +kernel
theorem dX7_dye_23 : decode cX7_dye 23 = .ok (.invokestatic 101, 3) := by decide +kernel
theorem dX7_dye_26 : decode cX7_dye 26 = .ok (.ifCond .ne 9, 3) := by decide +kernel
theorem dX7_dye_29 : decode cX7_dye 29 = .ok (.aload_n 0, 1) := by decide +kernel
theorem dX7_dye_30 : decode cX7_dye 30 = .ok (.iconst 2, 1) := by decide +kernel
theorem dX7_dye_31 : decode cX7_dye 31 = .ok (.invokevirtual 104, 3) := by decide +kernel
theorem dX7_dye_34 : decode cX7_dye 34 = .ok (.ireturn, 1) := by decide +kernel
theorem dX7_dye_35 : decode cX7_dye 35 = .ok (.aload_n 0, 1) := by decide +kernel
theorem dX7_dye_36 : decode cX7_dye 36 = .ok (.iload_n 1, 1) := by decide +kernel
theorem dX7_dye_37 : decode cX7_dye 37 = .ok (.iload_n 2, 1) := by decide +kernel
theorem dX7_dye_38 : decode cX7_dye 38 = .ok (.invokevirtual 136, 3) := by decide +kernel
theorem dX7_dye_41 : decode cX7_dye 41 = .ok (.bipush 45, 2) := by decide +kernel
theorem dX7_dye_43 : decode cX7_dye 43 = .ok (.if_icmp .eq 9, 3) := by decide +kernel
theorem dX7_dye_46 : decode cX7_dye 46 = .ok (.aload_n 0, 1) := by decide +kernel
theorem dX7_dye_47 : decode cX7_dye 47 = .ok (.iconst 3, 1) := by decide +kernel
theorem dX7_dye_48 : decode cX7_dye 48 = .ok (.invokevirtual 104, 3) := by decide +kernel
theorem dX7_dye_51 : decode cX7_dye 51 = .ok (.ireturn, 1) := by decide +kernel
theorem dX7_dye_52 : decode cX7_dye 52 = .ok (.iconst 0, 1) := by decide +kernel
theorem dX7_dye_53 : decode cX7_dye 53 = .ok (.istore 6, 2) := by decide +kernel
theorem dX7_dye_55 : decode cX7_dye 55 = .ok (.iload 6, 2) := by decide +kernel
theorem dX7_dye_57 : decode cX7_dye 57 = .ok (.iconst 3, 1) := by decide +kernel
theorem dX7_dye_58 : decode cX7_dye 58 = .ok (.if_icmp .ge 44, 3) := by decide +kernel
theorem dX7_dye_61 : decode cX7_dye 61 = .ok (.aload_n 0, 1) := by decide +kernel
theorem dX7_dye_62 : decode cX7_dye 62 = .ok (.getfield 16, 3) := by decide +kernel
theorem dX7_dye_65 : decode cX7_dye 65 = .ok (.iload 6, 2) := by decide +kernel
theorem dX7_dye_67 : decode cX7_dye 67 = .ok (.dup2, 1) := by decide +kernel
theorem dX7_dye_68 : decode cX7_dye 68 = .ok (.iaload, 1) := by decide +kernel
theorem dX7_dye_69 : decode cX7_dye 69 = .ok (.aload_n 0, 1) := by decide +kernel
theorem dX7_dye_70 : decode cX7_dye 70 = .ok (.iload_n 1, 1) := by decide +kernel
theorem dX7_dye_71 : decode cX7_dye 71 = .ok (.iload 6, 2) := by decide +kernel
theorem dX7_dye_73 : decode cX7_dye 73 = .ok (.invokevirtual 123, 3) := by decide +kernel
theorem dX7_dye_76 : decode cX7_dye 76 = .ok (.isub, 1) := by decide +kernel
theorem dX7_dye_77 : decode cX7_dye 77 = .ok (.iastore, 1) := by decide +kernel
theorem dX7_dye_78 : decode cX7_dye 78 = .ok (.aload_n 0, 1) := by decide +kernel
theorem dX7_dye_79 : decode cX7_dye 79 = .ok (.getfield 19, 3) := by decide +kernel
theorem dX7_dye_82 : decode cX7_dye 82 = .ok (.iload 6, 2) := by decide +kernel
theorem dX7_dye_84 : decode cX7_dye 84 = .ok (.dup2, 1) := by decide +kernel
theorem dX7_dye_85 : decode cX7_dye 85 = .ok (.laload, 1) := by decide +kernel
theorem dX7_dye_86 : decode cX7_dye 86 = .ok (.aload_n 0, 1) := by decide +kernel
theorem dX7_dye_87 : decode cX7_dye 87 = .ok (.iload_n 1, 1) := by decide +kernel
theorem dX7_dye_88 : decode cX7_dye 88 = .ok (.iload 6, 2) := by decide +kernel
theorem dX7_dye_90 : decode cX7_dye 90 = .ok (.invokevirtual 123, 3) := by decide +kernel
theorem dX7_dye_93 : decode cX7_dye 93 = .ok (.i2l, 1) := by decide +kernel
theorem dX7_dye_94 : decode cX7_dye 94 = .ok (.ladd, 1) := by decide +kernel
theorem dX7_dye_95 : decode cX7_dye 95 = .ok (.lastore, 1) := by decide +kernel
theorem dX7_dye_96 : decode cX7_dye 96 = .ok (.iinc 6 1, 3) := by decide +kernel
theorem dX7_dye_99 : decode cX7_dye 99 = .ok (.goto (-44), 3) := by decide +kernel
theorem dX7_dye_102 : decode cX7_dye 102 = .ok (.aload_n 0, 1) := by decide +kernel
theorem dX7_dye_103 : decode cX7_dye 103 = .ok (.getfield 44, 3) := by decide +kernel
theorem dX7_dye_106 : decode cX7_dye 106 = .ok (.iconst 3, 1) := by decide +kernel
theorem dX7_dye_107 : decode cX7_dye 107 = .ok (.iload_n 1, 1) := by decide +kernel
theorem dX7_dye_108 : decode cX7_dye 108 = .ok (.imul, 1) := by decide +kernel
theorem dX7_dye_109 : decode cX7_dye 109 = .ok (.iload_n 3, 1) := by decide +kernel
theorem dX7_dye_110 : decode cX7_dye 110 = .ok (.iastore, 1) := by decide +kernel
theorem dX7_dye_111 : decode cX7_dye 111 = .ok (.aload_n 0, 1) := by decide +kernel
theorem dX7_dye_112 : decode cX7_dye 112 = .ok (.getfield 44, 3) := by decide +kernel
theorem dX7_dye_115 : decode cX7_dye 115 = .ok (.iconst 3, 1) := by decide +kernel
theorem dX7_dye_116 : decode cX7_dye 116 = .ok (.iload_n 1, 1) := by decide +kernel
theorem dX7_dye_117 : decode cX7_dye 117 = .ok (.imul, 1) := by decide +kernel
theorem dX7_dye_118 : decode cX7_dye 118 = .ok (.iconst 1, 1) := by decide +kernel
theorem dX7_dye_119 : decode cX7_dye 119 = .ok (.iadd, 1) := by decide +kernel
theorem dX7_dye_120 : decode cX7_dye 120 = .ok (.iload 4, 2) := by decide +kernel
theorem dX7_dye_122 : decode cX7_dye 122 = .ok (.iastore, 1) := by decide +kernel
theorem dX7_dye_123 : decode cX7_dye 123 = .ok (.aload_n 0, 1) := by decide +kernel
theorem dX7_dye_124 : decode cX7_dye 124 = .ok (.getfield 44, 3) := by decide +kernel
theorem dX7_dye_127 : decode cX7_dye 127 = .ok (.iconst 3, 1) := by decide +kernel
theorem dX7_dye_128 : decode cX7_dye 128 = .ok (.iload_n 1, 1) := by decide +kernel
theorem dX7_dye_129 : decode cX7_dye 129 = .ok (.imul, 1) := by decide +kernel
theorem dX7_dye_130 : decode cX7_dye 130 = .ok (.iconst 2, 1) := by decide +kernel
theorem dX7_dye_131 : decode cX7_dye 131 = .ok (.iadd, 1) := by decide +kernel
theorem dX7_dye_132 : decode cX7_dye 132 = .ok (.iload 5, 2) := by decide +kernel
theorem dX7_dye_134 : decode cX7_dye 134 = .ok (.iastore, 1) := by decide +kernel
theorem dX7_dye_135 : decode cX7_dye 135 = .ok (.aload_n 0, 1) := by decide +kernel
theorem dX7_dye_136 : decode cX7_dye 136 = .ok (.getfield 59, 3) := by decide +kernel
theorem dX7_dye_139 : decode cX7_dye 139 = .ok (.iload_n 1, 1) := by decide +kernel
theorem dX7_dye_140 : decode cX7_dye 140 = .ok (.bipush 100, 2) := by decide +kernel
theorem dX7_dye_142 : decode cX7_dye 142 = .ok (.castore, 1) := by decide +kernel
theorem dX7_dye_143 : decode cX7_dye 143 = .ok (.aload_n 0, 1) := by decide +kernel
theorem dX7_dye_144 : decode cX7_dye 144 = .ok (.getfield 56, 3) := by decide +kernel
theorem dX7_dye_147 : decode cX7_dye 147 = .ok (.iload_n 1, 1) := by decide +kernel
theorem dX7_dye_148 : decode cX7_dye 148 = .ok (.iconst (-1), 1) := by decide +kernel
theorem dX7_dye_149 : decode cX7_dye 149 = .ok (.iastore, 1) := by decide +kernel
theorem dX7_dye_150 : decode cX7_dye 150 = .ok (.aload_n 0, 1) := by decide +kernel
theorem dX7_dye_151 : decode cX7_dye 151 = .ok (.getfield 47, 3) := by decide +kernel
theorem dX7_dye_154 : decode cX7_dye 154 = .ok (.iload_n 1, 1) := by decide +kernel
theorem dX7_dye_155 : decode cX7_dye 155 = .ok (.iload_n 2, 1) := by decide +kernel
theorem dX7_dye_156 : decode cX7_dye 156 = .ok (.iastore, 1) := by decide +kernel
theorem dX7_dye_157 : decode cX7_dye 157 = .ok (.aload_n 0, 1) := by decide +kernel
theorem dX7_dye_158 : decode cX7_dye 158 = .ok (.getfield 66, 3) := by decide +kernel
theorem dX7_dye_161 : decode cX7_dye 161 = .ok (.iload_n 2, 1) := by decide +kernel
theorem dX7_dye_162 : decode cX7_dye 162 = .ok (.iload_n 3, 1) := by decide +kernel
theorem dX7_dye_163 : decode cX7_dye 163 = .ok (.iastore, 1) := by decide +kernel
theorem dX7_dye_164 : decode cX7_dye 164 = .ok (.aload_n 0, 1) := by decide +kernel
theorem dX7_dye_165 : decode cX7_dye 165 = .ok (.getfield 72, 3) := by decide +kernel
theorem dX7_dye_168 : decode cX7_dye 168 = .ok (.iload_n 2, 1) := by decide +kernel
theorem dX7_dye_169 : decode cX7_dye 169 = .ok (.dup2, 1) := by decide +kernel
theorem dX7_dye_170 : decode cX7_dye 170 = .ok (.iaload, 1) := by decide +kernel
theorem dX7_dye_171 : decode cX7_dye 171 = .ok (.aload_n 0, 1) := by decide +kernel
theorem dX7_dye_172 : decode cX7_dye 172 = .ok (.iload_n 1, 1) := by decide +kernel
theorem dX7_dye_173 : decode cX7_dye 173 = .ok (.invokevirtual 127, 3) := by decide +kernel
theorem dX7_dye_176 : decode cX7_dye 176 = .ok (.iadd, 1) := by decide +kernel
theorem dX7_dye_177 : decode cX7_dye 177 = .ok (.iastore, 1) := by decide +kernel
theorem dX7_dye_178 : decode cX7_dye 178 = .ok (.aload_n 0, 1) := by decide +kernel
theorem dX7_dye_179 : decode cX7_dye 179 = .ok (.getfield 50, 3) := by decide +kernel
theorem dX7_dye_182 : decode cX7_dye 182 = .ok (.iload_n 1, 1) := by decide +kernel
theorem dX7_dye_183 : decode cX7_dye 183 = .ok (.aload_n 0, 1) := by decide +kernel
theorem dX7_dye_184 : decode cX7_dye 184 = .ok (.getfield 72, 3) := by decide +kernel
theorem dX7_dye_187 : decode cX7_dye 187 = .ok (.iload_n 2, 1) := by decide +kernel
theorem dX7_dye_188 : decode cX7_dye 188 = .ok (.iaload, 1) := by decide +kernel
theorem dX7_dye_189 : decode cX7_dye 189 = .ok (.iastore, 1) := by decide +kernel
theorem dX7_dye_190 : decode cX7_dye 190 = .ok (.aload_n 0, 1) := by decide +kernel
theorem dX7_dye_191 : decode cX7_dye 191 = .ok (.getfield 53, 3) := by decide +kernel
theorem dX7_dye_194 : decode cX7_dye 194 = .ok (.iload_n 1, 1) := by decide +kernel
theorem dX7_dye_195 : decode cX7_dye 195 = .ok (.aload_n 0, 1) := by decide +kernel
theorem dX7_dye_196 : decode cX7_dye 196 = .ok (.getfield 75, 3) := by decide +kernel
theorem dX7_dye_199 : decode cX7_dye 199 = .ok (.iload_n 2, 1) := by decide +kernel
theorem dX7_dye_200 : decode cX7_dye 200 = .ok (.iaload, 1) := by decide +kernel
theorem dX7_dye_201 : decode cX7_dye 201 = .ok (.iastore, 1) := by decide +kernel
theorem dX7_dye_202 : decode cX7_dye 202 = .ok (.aload_n 0, 1) := by decide +kernel
theorem dX7_dye_203 : decode cX7_dye 203 = .ok (.getfield 72, 3) := by decide +kernel
theorem dX7_dye_206 : decode cX7_dye 206 = .ok (.iload_n 2, 1) := by decide +kernel
theorem dX7_dye_207 : decode cX7_dye 207 = .ok (.iaload, 1) := by decide +kernel
theorem dX7_dye_208 : decode cX7_dye 208 = .ok (.ireturn, 1) := by decide +kernel
set_option maxRecDepth 20000 in
theorem ggX7_clean_X7_noVat : GoodIn wsX7_clean wsX7_noVat := goodIn_r _ [9, 10, 11, 12, 13, 8, 14, 15, 16, 17, 18, 19, 20, 21, 22, 23, 24, 25, 26, 27, 28, 29, 30, 31, 32, 33, 34, 35, 36, 37, 38, 39, 40, 41, 42, 43] (by decide +kernel) (by decide +kernel)
set_option maxRecDepth 20000 in
theorem gX7_clean_X7_noVat : GoodIn wsX7_clean (wsV RX7 133 RX7 yX7_noVat wsX7_noVat) := goodIn_app (goodIn_of _ (by decide +kernel)) ggX7_clean_X7_noVat
theorem dX7_clean_0 : decode cX7_clean 0 = .ok (.aload_n 0, 1) := by decide +kernel
theorem dX7_clean_1 : decode cX7_clean 1 = .ok (.iload_n 1, 1) := by decide +kernel
theorem dX7_clean_2 : decode cX7_clean 2 = .ok (.invokevirtual 133, 3) := by decide +kernel
theorem dX7_clean_5 : decode cX7_clean 5 = .ok (.ifCond .eq 5, 3) := by decide +kernel
theorem dX7_clean_8 : decode cX7_clean 8 = .ok (.iconst 0, 1) := by decide +kernel
theorem dX7_clean_9 : decode cX7_clean 9 = .ok (.ireturn, 1) := by decide +kernel
theorem dX7_clean_10 : decode cX7_clean 10 = .ok (.aload_n 0, 1) := by decide +kernel
theorem dX7_clean_11 : decode cX7_clean 11 = .ok (.getfield 66, 3) := by decide +kernel
theorem dX7_clean_14 : decode cX7_clean 14 = .ok (.iload_n 1, 1) := by decide +kernel
theorem dX7_clean_15 : decode cX7_clean 15 = .ok (.iconst (-1), 1) := by decide +kernel
theorem dX7_clean_16 : decode cX7_clean 16 = .ok (.iastore, 1) := by decide +kernel
theorem dX7_clean_17 : decode cX7_clean 17 = .ok (.aload_n 0, 1) := by decide +kernel
theorem dX7_clean_18 : decode cX7_clean 18 = .ok (.getfield 69, 3) := by decide +kernel
theorem dX7_clean_21 : decode cX7_clean 21 = .ok (.iload_n 1, 1) := by decide +kernel
theorem dX7_clean_22 : decode cX7_clean 22 = .ok (.iconst (-1), 1) := by decide +kernel
theorem dX7_clean_23 : decode cX7_clean 23 = .ok (.iastore, 1) := by decide +kernel
theorem dX7_clean_24 : decode cX7_clean 24 = .ok (.aload_n 0, 1) := by decide +kernel
theorem dX7_clean_25 : decode cX7_clean 25 = .ok (.getfield 75, 3) := by decide +kernel
theorem dX7_clean_28 : decode cX7_clean 28 = .ok (.iload_n 1, 1) := by decide +kernel
theorem dX7_clean_29 : decode cX7_clean 29 = .ok (.dup2, 1) := by decide +kernel
theorem dX7_clean_30 : decode cX7_clean 30 = .ok (.iaload, 1) := by decide +kernel
theorem dX7_clean_31 : decode cX7_clean 31 = .ok (.iconst 1, 1) := by decide +kernel
theorem dX7_clean_32 : decode cX7_clean 32 = .ok (.iadd, 1) := by decide +kernel
theorem dX7_clean_33 : decode cX7_clean 33 = .ok (.iastore, 1) := by decide +kernel
theorem dX7_clean_34 : decode cX7_clean 34 = .ok (.aload_n 0, 1) := by decide +kernel
theorem dX7_clean_35 : decode cX7_clean 35 = .ok (.getfield 72, 3) := by decide +kernel
theorem dX7_clean_38 : decode cX7_clean 38 = .ok (.iload_n 1, 1) := by decide +kernel
theorem dX7_clean_39 : decode cX7_clean 39 = .ok (.dup2, 1) := by decide +kernel
theorem dX7_clean_40 : decode cX7_clean 40 = .ok (.iaload, 1) := by decide +kernel
theorem dX7_clean_41 : decode cX7_clean 41 = .ok (.iconst 3, 1) := by decide +kernel
theorem dX7_clean_42 : decode cX7_clean 42 = .ok (.iadd, 1) := by decide +kernel
theorem dX7_clean_43 : decode cX7_clean 43 = .ok (.iastore, 1) := by decide +kernel
theorem dX7_clean_44 : decode cX7_clean 44 = .ok (.aload_n 0, 1) := by decide +kernel
theorem dX7_clean_45 : decode cX7_clean 45 = .ok (.getfield 72, 3) := by decide +kernel
theorem dX7_clean_48 : decode cX7_clean 48 = .ok (.iload_n 1, 1) := by decide +kernel
theorem dX7_clean_49 : decode cX7_clean 49 = .ok (.iaload, 1) := by decide +kernel
theorem dX7_clean_50 : decode cX7_clean 50 = .ok (.ireturn, 1) := by decide +kernel
theorem dX7_gap_0 : decode cX7_gap 0 = .ok (.iload_n 0, 1) := by decide +kernel
theorem dX7_gap_1 : decode cX7_gap 1 = .ok (.iload_n 1, 1) := by decide +kernel
theorem dX7_gap_2 : decode cX7_gap 2 = .ok (.if_icmp .ge 9, 3) := by decide +kernel
theorem dX7_gap_5 : decode cX7_gap 5 = .ok (.iload_n 1, 1) := by decide +kernel
theorem dX7_gap_6 : decode cX7_gap 6 = .ok (.iload_n 0, 1) := by decide +kernel
theorem dX7_gap_7 : decode cX7_gap 7 = .ok (.isub, 1) := by decide +kernel
theorem dX7_gap_8 : decode cX7_gap 8 = .ok (.goto 6, 3) := by decide +kernel
theorem dX7_gap_11 : decode cX7_gap 11 = .ok (.iload_n 0, 1) := by decide +kernel
theorem dX7_gap_12 : decode cX7_gap 12 = .ok (.iload_n 1, 1) := by decide +kernel
theorem dX7_gap_13 : decode cX7_gap 13 = .ok (.isub, 1) := by decide +kernel
theorem dX7_gap_14 : decode cX7_gap 14 = .ok (.ireturn, 1) := by decide +kernel
set_option maxRecDepth 20000 in
theorem ggX7_off_X7_gap : GoodIn wsX7_off wsX7_gap := goodIn_r _ [8] (by decide +kernel) (by decide +kernel)
set_option maxRecDepth 20000 in
theorem gX7_off_X7_gap : GoodIn wsX7_off (va_wsS RX7 140 yX7_gap wsX7_gap) := goodIn_app (goodIn_of _ (by decide +kernel)) ggX7_off_X7_gap
theorem dX7_off_0 : decode cX7_off 0 = .ok (.iconst 3, 1) := by decide +kernel
theorem dX7_off_1 : decode cX7_off 1 = .ok (.aload_n 0, 1) := by decide +kernel
theorem dX7_off_2 : decode cX7_off 2 = .ok (.getfield 26, 3) := by decide +kernel
theorem dX7_off_5 : decode cX7_off 5 = .ok (.aload_n 0, 1) := by decide +kernel
theorem dX7_off_6 : decode cX7_off 6 = .ok (.getfield 38, 3) := by decide +kernel
theorem dX7_off_9 : decode cX7_off 9 = .ok (.iload_n 1, 1) := by decide +kernel
theorem dX7_off_10 : decode cX7_off 10 = .ok (.iaload, 1) := by decide +kernel
theorem dX7_off_11 : decode cX7_off 11 = .ok (.iaload, 1) := by decide +kernel
theorem dX7_off_12 : decode cX7_off 12 = .ok (.imul, 1) := by decide +kernel
theorem dX7_off_13 : decode cX7_off 13 = .ok (.istore_n 2, 1) := by decide +kernel
theorem dX7_off_14 : decode cX7_off 14 = .ok (.aload_n 0, 1) := by decide +kernel
theorem dX7_off_15 : decode cX7_off 15 = .ok (.getfield 44, 3) := by decide +kernel
theorem dX7_off_18 : decode cX7_off 18 = .ok (.iconst 3, 1) := by decide +kernel
theorem dX7_off_19 : decode cX7_off 19 = .ok (.iload_n 1, 1) := by decide +kernel
theorem dX7_off_20 : decode cX7_off 20 = .ok (.imul, 1) := by decide +kernel
theorem dX7_off_21 : decode cX7_off 21 = .ok (.iaload, 1) := by decide +kernel
theorem dX7_off_22 : decode cX7_off 22 = .ok (.aload_n 0, 1) := by decide +kernel
theorem dX7_off_23 : decode cX7_off 23 = .ok (.getfield 7, 3) := by decide +kernel
theorem dX7_off_26 : decode cX7_off 26 = .ok (.iload_n 2, 1) := by decide +kernel
theorem dX7_off_27 : decode cX7_off 27 = .ok (.iaload, 1) := by decide +kernel
theorem dX7_off_28 : decode cX7_off 28 = .ok (.invokestatic 140, 3) := by decide +kernel
theorem dX7_off_31 : decode cX7_off 31 = .ok (.aload_n 0, 1) := by decide +kernel
theorem dX7_off_32 : decode cX7_off 32 = .ok (.getfield 44, 3) := by decide +kernel
theorem dX7_off_35 : decode cX7_off 35 = .ok (.iconst 3, 1) := by decide +kernel
theorem dX7_off_36 : decode cX7_off 36 = .ok (.iload_n 1, 1) := by decide +kernel
theorem dX7_off_37 : decode cX7_off 37 = .ok (.imul, 1) := by decide +kernel
theorem dX7_off_38 : decode cX7_off 38 = .ok (.iconst 1, 1) := by decide +kernel
theorem dX7_off_39 : decode cX7_off 39 = .ok (.iadd, 1) := by decide +kernel
theorem dX7_off_40 : decode cX7_off 40 = .ok (.iaload, 1) := by decide +kernel
theorem dX7_off_41 : decode cX7_off 41 = .ok (.aload_n 0, 1) := by decide +kernel
theorem dX7_off_42 : decode cX7_off 42 = .ok (.getfield 7, 3) := by decide +kernel
theorem dX7_off_45 : decode cX7_off 45 = .ok (.iload_n 2, 1) := by decide +kernel
theorem dX7_off_46 : decode cX7_off 46 = .ok (.iconst 1, 1) := by decide +kernel
theorem dX7_off_47 : decode cX7_off 47 = .ok (.iadd, 1) := by decide +kernel
theorem dX7_off_48 : decode cX7_off 48 = .ok (.iaload, 1) := by decide +kernel
theorem dX7_off_49 : decode cX7_off 49 = .ok (.invokestatic 140, 3) := by decide +kernel
theorem dX7_off_52 : decode cX7_off 52 = .ok (.iadd, 1) := by decide +kernel
theorem dX7_off_53 : decode cX7_off 53 = .ok (.aload_n 0, 1) := by decide +kernel
theorem dX7_off_54 : decode cX7_off 54 = .ok (.getfield 44, 3) := by decide +kernel
theorem dX7_off_57 : decode cX7_off 57 = .ok (.iconst 3, 1) := by decide +kernel
theorem dX7_off_58 : decode cX7_off 58 = .ok (.iload_n 1, 1) := by decide +kernel
theorem dX7_off_59 : decode cX7_off 59 = .ok (.imul, 1) := by decide +kernel
theorem dX7_off_60 : decode cX7_off 60 = .ok (.iconst 2, 1) := by decide +kernel
theorem dX7_off_61 : decode cX7_off 61 = .ok (.iadd, 1) := by decide +kernel
theorem dX7_off_62 : decode cX7_off 62 = .ok (.iaload, 1) := by decide +kernel
theorem dX7_off_63 : decode cX7_off 63 = .ok (.aload_n 0, 1) := by decide +kernel
theorem dX7_off_64 : decode cX7_off 64 = .ok (.getfield 7, 3) := by decide +kernel
theorem dX7_off_67 : decode cX7_off 67 = .ok (.iload_n 2, 1) := by decide +kernel
theorem dX7_off_68 : decode cX7_off 68 = .ok (.iconst 2, 1) := by decide +kernel
theorem dX7_off_69 : decode cX7_off 69 = .ok (.iadd, 1) := by decide +kernel
theorem dX7_off_70 : decode cX7_off 70 = .ok (.iaload, 1) := by decide +kernel
theorem dX7_off_71 : decode cX7_off 71 = .ok (.invokestatic 140, 3) := by decide +kernel
theorem dX7_off_74 : decode cX7_off 74 = .ok (.iadd, 1) := by decide +kernel
theorem dX7_off_75 : decode cX7_off 75 = .ok (.ireturn, 1) := by decide +kernel
set_option maxRecDepth 20000 in
theorem ggX7_apart_X7_gap : GoodIn wsX7_apart wsX7_gap := goodIn_r _ [5] (by decide +kernel) (by decide +kernel)
set_option maxRecDepth 20000 in
theorem gX7_apart_X7_gap : GoodIn wsX7_apart (va_wsS RX7 140 yX7_gap wsX7_gap) := goodIn_app (goodIn_of _ (by decide +kernel)) ggX7_apart_X7_gap
theorem dX7_apart_0 : decode cX7_apart 0 = .ok (.aload_n 0, 1) := by decide +kernel
theorem dX7_apart_1 : decode cX7_apart 1 = .ok (.getfield 44, 3) := by decide +kernel
theorem dX7_apart_4 : decode cX7_apart 4 = .ok (.iconst 3, 1) := by decide +kernel
theorem dX7_apart_5 : decode cX7_apart 5 = .ok (.iload_n 1, 1) := by decide +kernel
theorem dX7_apart_6 : decode cX7_apart 6 = .ok (.imul, 1) := by decide +kernel
theorem dX7_apart_7 : decode cX7_apart 7 = .ok (.iaload, 1) := by decide +kernel
theorem dX7_apart_8 : decode cX7_apart 8 = .ok (.aload_n 0, 1) := by decide +kernel
theorem dX7_apart_9 : decode cX7_apart 9 = .ok (.getfield 44, 3) := by decide +kernel
theorem dX7_apart_12 : decode cX7_apart 12 = .ok (.iconst 3, 1) := by decide +kernel
theorem dX7_apart_13 : decode cX7_apart 13 = .ok (.iload_n 2, 1) := by decide +kernel
theorem dX7_apart_14 : decode cX7_apart 14 = .ok (.imul, 1) := by decide +kernel
theorem dX7_apart_15 : decode cX7_apart 15 = .ok (.iaload, 1) := by decide +kernel
theorem dX7_apart_16 : decode cX7_apart 16 = .ok (.invokestatic 140, 3) := by decide +kernel
theorem dX7_apart_19 : decode cX7_apart 19 = .ok (.aload_n 0, 1) := by decide +kernel
theorem dX7_apart_20 : decode cX7_apart 20 = .ok (.getfield 44, 3) := by decide +kernel
theorem dX7_apart_23 : decode cX7_apart 23 = .ok (.iconst 3, 1) := by decide +kernel
theorem dX7_apart_24 : decode cX7_apart 24 = .ok (.iload_n 1, 1) := by decide +kernel
theorem dX7_apart_25 : decode cX7_apart 25 = .ok (.imul, 1) := by decide +kernel
theorem dX7_apart_26 : decode cX7_apart 26 = .ok (.iconst 1, 1) := by decide +kernel
theorem dX7_apart_27 : decode cX7_apart 27 = .ok (.iadd, 1) := by decide +kernel
theorem dX7_apart_28 : decode cX7_apart 28 = .ok (.iaload, 1) := by decide +kernel
theorem dX7_apart_29 : decode cX7_apart 29 = .ok (.aload_n 0, 1) := by decide +kernel
theorem dX7_apart_30 : decode cX7_apart 30 = .ok (.getfield 44, 3) := by decide +kernel
theorem dX7_apart_33 : decode cX7_apart 33 = .ok (.iconst 3, 1) := by decide +kernel
theorem dX7_apart_34 : decode cX7_apart 34 = .ok (.iload_n 2, 1) := by decide +kernel
theorem dX7_apart_35 : decode cX7_apart 35 = .ok (.imul, 1) := by decide +kernel
theorem dX7_apart_36 : decode cX7_apart 36 = .ok (.iconst 1, 1) := by decide +kernel
theorem dX7_apart_37 : decode cX7_apart 37 = .ok (.iadd, 1) := by decide +kernel
theorem dX7_apart_38 : decode cX7_apart 38 = .ok (.iaload, 1) := by decide +kernel
theorem dX7_apart_39 : decode cX7_apart 39 = .ok (.invokestatic 140, 3) := by decide +kernel
theorem dX7_apart_42 : decode cX7_apart 42 = .ok (.iadd, 1) := by decide +kernel
theorem dX7_apart_43 : decode cX7_apart 43 = .ok (.aload_n 0, 1) := by decide +kernel
theorem dX7_apart_44 : decode cX7_apart 44 = .ok (.getfield 44, 3) := by decide +kernel
theorem dX7_apart_47 : decode cX7_apart 47 = .ok (.iconst 3, 1) := by decide +kernel
theorem dX7_apart_48 : decode cX7_apart 48 = .ok (.iload_n 1, 1) := by decide +kernel
theorem dX7_apart_49 : decode cX7_apart 49 = .ok (.imul, 1) := by decide +kernel
theorem dX7_apart_50 : decode cX7_apart 50 = .ok (.iconst 2, 1) := by decide +kernel
theorem dX7_apart_51 : decode cX7_apart 51 = .ok (.iadd, 1) := by decide +kernel
theorem dX7_apart_52 : decode cX7_apart 52 = .ok (.iaload, 1) := by decide +kernel
theorem dX7_apart_53 : decode cX7_apart 53 = .ok (.aload_n 0, 1) := by decide +kernel
theorem dX7_apart_54 : decode cX7_apart 54 = .ok (.getfield 44, 3) := by decide +kernel
theorem dX7_apart_57 : decode cX7_apart 57 = .ok (.iconst 3, 1) := by decide +kernel
theorem dX7_apart_58 : decode cX7_apart 58 = .ok (.iload_n 2, 1) := by decide +kernel
theorem dX7_apart_59 : decode cX7_apart 59 = .ok (.imul, 1) := by decide +kernel
theorem dX7_apart_60 : decode cX7_apart 60 = .ok (.iconst 2, 1) := by decide +kernel
theorem dX7_apart_61 : decode cX7_apart 61 = .ok (.iadd, 1) := by decide +kernel
theorem dX7_apart_62 : decode cX7_apart 62 = .ok (.iaload, 1) := by decide +kernel
theorem dX7_apart_63 : decode cX7_apart 63 = .ok (.invokestatic 140, 3) := by decide +kernel
theorem dX7_apart_66 : decode cX7_apart 66 = .ok (.iadd, 1) := by decide +kernel
theorem dX7_apart_67 : decode cX7_apart 67 = .ok (.ireturn, 1) := by decide +kernel
set_option maxRecDepth 20000 in
theorem ggX7_judged_X7_off : GoodIn wsX7_judged wsX7_off := goodIn_ca (goodIn_r _ [9, 10, 2, 11, 12, 13, 14, 8, 15, 20, 21, 22, 23, 24, 25, 26, 27, 28, 29, 30, 31, 32, 33, 34, 35, 36, 37, 38, 39, 40, 41, 42, 43, 44, 45, 46, 47, 48] (by decide +kernel) (by decide +kernel)) (goodIn_sub (fun _ h => List.mem_cons_of_mem _ (List.mem_append_right _ h)) (by decide +kernel))
set_option maxRecDepth 20000 in
theorem gX7_judged_X7_off : GoodIn wsX7_judged (wsV RX7 143 RX7 yX7_off wsX7_off) := goodIn_app (goodIn_of _ (by decide +kernel)) ggX7_judged_X7_off
set_option maxRecDepth 20000 in
theorem ggX7_judged_X7_apart : GoodIn wsX7_judged wsX7_apart := goodIn_ca (goodIn_r _ [19, 11, 13, 14, 8, 15, 20, 21, 22, 23, 24, 25, 26, 27, 28, 29, 30, 31, 32, 33, 34, 35, 36, 37, 38, 39, 40, 41, 42, 43, 44, 45, 46, 47, 48] (by decide +kernel) (by decide +kernel)) (goodIn_sub (fun _ h => List.mem_cons_of_mem _ (List.mem_append_right _ h)) (by decide +kernel))
set_option maxRecDepth 20000 in
theorem gX7_judged_X7_apart : GoodIn wsX7_judged (wsV RX7 146 RX7 yX7_apart wsX7_apart) := goodIn_app (goodIn_of _ (by decide +kernel)) ggX7_judged_X7_apart
theorem dX7_judged_0 : decode cX7_judged 0 = .ok (.aload_n 0, 1) := by decide +kernel
theorem dX7_judged_1 : decode cX7_judged 1 = .ok (.iload_n 1, 1) := by decide +kernel
theorem dX7_judged_2 : decode cX7_judged 2 = .ok (.invokevirtual 143, 3) := by decide +kernel
theorem dX7_judged_5 : decode cX7_judged 5 = .ok (.aload_n 0, 1) := by decide +kernel
theorem dX7_judged_6 : decode cX7_judged 6 = .ok (.getfield 29, 3) := by decide +kernel
theorem dX7_judged_9 : decode cX7_judged 9 = .ok (.aload_n 0, 1) := by decide +kernel
theorem dX7_judged_10 : decode cX7_judged 10 = .ok (.getfield 38, 3) := by decide +kernel
theorem dX7_judged_13 : decode cX7_judged 13 = .ok (.iload_n 1, 1) := by decide +kernel
theorem dX7_judged_14 : decode cX7_judged 14 = .ok (.iaload, 1) := by decide +kernel
theorem dX7_judged_15 : decode cX7_judged 15 = .ok (.iaload, 1) := by decide +kernel
theorem dX7_judged_16 : decode cX7_judged 16 = .ok (.if_icmp .le 6, 3) := by decide +kernel
theorem dX7_judged_19 : decode cX7_judged 19 = .ok (.bipush 102, 2) := by decide +kernel
theorem dX7_judged_21 : decode cX7_judged 21 = .ok (.ireturn, 1) := by decide +kernel
theorem dX7_judged_22 : decode cX7_judged 22 = .ok (.iconst 0, 1) := by decide +kernel
theorem dX7_judged_23 : decode cX7_judged 23 = .ok (.istore_n 2, 1) := by decide +kernel
theorem dX7_judged_24 : decode cX7_judged 24 = .ok (.iload_n 2, 1) := by decide +kernel
theorem dX7_judged_25 : decode cX7_judged 25 = .ok (.aload_n 0, 1) := by decide +kernel
theorem dX7_judged_26 : decode cX7_judged 26 = .ok (.getfield 92, 3) := by decide +kernel
theorem dX7_judged_29 : decode cX7_judged 29 = .ok (.if_icmp .ge 58, 3) := by decide +kernel
theorem dX7_judged_32 : decode cX7_judged 32 = .ok (.aload_n 0, 1) := by decide +kernel
theorem dX7_judged_33 : decode cX7_judged 33 = .ok (.getfield 38, 3) := by decide +kernel
theorem dX7_judged_36 : decode cX7_judged 36 = .ok (.iload_n 2, 1) := by decide +kernel
theorem dX7_judged_37 : decode cX7_judged 37 = .ok (.iaload, 1) := by decide +kernel
theorem dX7_judged_38 : decode cX7_judged 38 = .ok (.aload_n 0, 1) := by decide +kernel
theorem dX7_judged_39 : decode cX7_judged 39 = .ok (.getfield 38, 3) := by decide +kernel
theorem dX7_judged_42 : decode cX7_judged 42 = .ok (.iload_n 1, 1) := by decide +kernel
theorem dX7_judged_43 : decode cX7_judged 43 = .ok (.iaload, 1) := by decide +kernel
theorem dX7_judged_44 : decode cX7_judged 44 = .ok (.if_icmp .ne 37, 3) := by decide +kernel
theorem dX7_judged_47 : decode cX7_judged 47 = .ok (.aload_n 0, 1) := by decide +kernel
theorem dX7_judged_48 : decode cX7_judged 48 = .ok (.getfield 59, 3) := by decide +kernel
theorem dX7_judged_51 : decode cX7_judged 51 = .ok (.iload_n 2, 1) := by decide +kernel
theorem dX7_judged_52 : decode cX7_judged 52 = .ok (.caload, 1) := by decide +kernel
theorem dX7_judged_53 : decode cX7_judged 53 = .ok (.bipush 112, 2) := by decide +kernel
theorem dX7_judged_55 : decode cX7_judged 55 = .ok (.if_icmp .ne 26, 3) := by decide +kernel
theorem dX7_judged_58 : decode cX7_judged 58 = .ok (.aload_n 0, 1) := by decide +kernel
theorem dX7_judged_59 : decode cX7_judged 59 = .ok (.iload_n 1, 1) := by decide +kernel
theorem dX7_judged_60 : decode cX7_judged 60 = .ok (.iload_n 2, 1) := by decide +kernel
theorem dX7_judged_61 : decode cX7_judged 61 = .ok (.invokevirtual 146, 3) := by decide +kernel
theorem dX7_judged_64 : decode cX7_judged 64 = .ok (.aload_n 0, 1) := by decide +kernel
theorem dX7_judged_65 : decode cX7_judged 65 = .ok (.getfield 29, 3) := by decide +kernel
theorem dX7_judged_68 : decode cX7_judged 68 = .ok (.aload_n 0, 1) := by decide +kernel
theorem dX7_judged_69 : decode cX7_judged 69 = .ok (.getfield 38, 3) := by decide +kernel
theorem dX7_judged_72 : decode cX7_judged 72 = .ok (.iload_n 1, 1) := by decide +kernel
theorem dX7_judged_73 : decode cX7_judged 73 = .ok (.iaload, 1) := by decide +kernel
theorem dX7_judged_74 : decode cX7_judged 74 = .ok (.iaload, 1) := by decide +kernel
theorem dX7_judged_75 : decode cX7_judged 75 = .ok (.if_icmp .le 6, 3) := by decide +kernel
theorem dX7_judged_78 : decode cX7_judged 78 = .ok (.bipush 97, 2) := by decide +kernel
theorem dX7_judged_80 : decode cX7_judged 80 = .ok (.ireturn, 1) := by decide +kernel
theorem dX7_judged_81 : decode cX7_judged 81 = .ok (.iinc 2 1, 3) := by decide +kernel
theorem dX7_judged_84 : decode cX7_judged 84 = .ok (.goto (-60), 3) := by decide +kernel
theorem dX7_judged_87 : decode cX7_judged 87 = .ok (.bipush 112, 2) := by decide +kernel
theorem dX7_judged_89 : decode cX7_judged 89 = .ok (.ireturn, 1) := by decide +kernel
set_option maxRecDepth 20000 in
theorem ggX7_isNot_X7_noLot : GoodIn wsX7_isNot wsX7_noLot := goodIn_r _ [7, 8, 2, 9, 10, 6, 11, 12, 13, 14, 15, 16, 17, 18, 19, 20, 21, 22, 23, 24, 25, 26, 27, 28, 29, 30, 31, 32, 33, 34, 35, 36, 37, 38, 39, 40] (by decide +kernel) (by decide +kernel)
set_option maxRecDepth 20000 in
theorem gX7_isNot_X7_noLot : GoodIn wsX7_isNot (wsV RX7 120 RX7 yX7_noLot wsX7_noLot) := goodIn_app (goodIn_of _ (by decide +kernel)) ggX7_isNot_X7_noLot
theorem dX7_isNot_0 : decode cX7_isNot 0 = .ok (.aload_n 0, 1) := by decide +kernel
theorem dX7_isNot_1 : decode cX7_isNot 1 = .ok (.iload_n 1, 1) := by decide +kernel
theorem dX7_isNot_2 : decode cX7_isNot 2 = .ok (.invokevirtual 120, 3) := by decide +kernel
theorem dX7_isNot_5 : decode cX7_isNot 5 = .ok (.ifCond .eq 5, 3) := by decide +kernel
theorem dX7_isNot_8 : decode cX7_isNot 8 = .ok (.iconst 1, 1) := by decide +kernel
theorem dX7_isNot_9 : decode cX7_isNot 9 = .ok (.ireturn, 1) := by decide +kernel
theorem dX7_isNot_10 : decode cX7_isNot 10 = .ok (.aload_n 0, 1) := by decide +kernel
theorem dX7_isNot_11 : decode cX7_isNot 11 = .ok (.aload_n 0, 1) := by decide +kernel
theorem dX7_isNot_12 : decode cX7_isNot 12 = .ok (.getfield 59, 3) := by decide +kernel
theorem dX7_isNot_15 : decode cX7_isNot 15 = .ok (.iload_n 1, 1) := by decide +kernel
theorem dX7_isNot_16 : decode cX7_isNot 16 = .ok (.caload, 1) := by decide +kernel
theorem dX7_isNot_17 : decode cX7_isNot 17 = .ok (.iload_n 2, 1) := by decide +kernel
theorem dX7_isNot_18 : decode cX7_isNot 18 = .ok (.if_icmp .ne 7, 3) := by decide +kernel
theorem dX7_isNot_21 : decode cX7_isNot 21 = .ok (.iconst 0, 1) := by decide +kernel
theorem dX7_isNot_22 : decode cX7_isNot 22 = .ok (.goto 4, 3) := by decide +kernel
theorem dX7_isNot_25 : decode cX7_isNot 25 = .ok (.iconst 2, 1) := by decide +kernel
theorem dX7_isNot_26 : decode cX7_isNot 26 = .ok (.putfield 84, 3) := by decide +kernel
theorem dX7_isNot_29 : decode cX7_isNot 29 = .ok (.aload_n 0, 1) := by decide +kernel
theorem dX7_isNot_30 : decode cX7_isNot 30 = .ok (.getfield 84, 3) := by decide +kernel
theorem dX7_isNot_33 : decode cX7_isNot 33 = .ok (.ifCond .eq 7, 3) := by decide +kernel
theorem dX7_isNot_36 : decode cX7_isNot 36 = .ok (.iconst 1, 1) := by decide +kernel
theorem dX7_isNot_37 : decode cX7_isNot 37 = .ok (.goto 4, 3) := by decide +kernel
theorem dX7_isNot_40 : decode cX7_isNot 40 = .ok (.iconst 0, 1) := by decide +kernel
theorem dX7_isNot_41 : decode cX7_isNot 41 = .ok (.ireturn, 1) := by decide +kernel
set_option maxRecDepth 20000 in
theorem ggX7_verdict_X7_isNot : GoodIn wsX7_verdict wsX7_isNot := goodIn_ca (goodIn_r _ [5, 6, 7, 8, 9, 10, 4, 11, 12, 13, 14, 15, 36, 37, 38, 39, 40, 41, 42, 43, 44, 45, 46, 47, 48, 49, 50, 51, 52, 53, 54, 55, 56, 57, 58, 59, 60, 61, 62, 63, 64] (by decide +kernel) (by decide +kernel)) (goodIn_sub (fun _ h => List.mem_cons_of_mem _ (List.mem_append_right _ h)) (by decide +kernel))
set_option maxRecDepth 20000 in
theorem gX7_verdict_X7_isNot : GoodIn wsX7_verdict (wsV RX7 149 RX7 yX7_isNot wsX7_isNot) := goodIn_app (goodIn_of _ (by decide +kernel)) ggX7_verdict_X7_isNot
set_option maxRecDepth 20000 in
theorem ggX7_verdict_X7_judged : GoodIn wsX7_verdict wsX7_judged := goodIn_ca (goodIn_r _ [19, 20, 21, 12, 6, 22, 23, 24, 4, 25, 26, 27, 28, 29, 30, 31, 32, 33, 34, 35, 36, 37, 38, 39, 40, 41, 42, 43, 44, 45, 46, 47, 48, 49, 50, 51, 52, 53, 54, 55, 56, 57, 58, 59, 60, 61, 62, 63, 64] (by decide +kernel) (by decide +kernel)) (goodIn_sub (fun _ h => List.mem_cons_of_mem _ (List.mem_append_right _ h)) (by decide +kernel))
set_option maxRecDepth 20000 in
theorem gX7_verdict_X7_judged : GoodIn wsX7_verdict (wsV RX7 153 RX7 yX7_judged wsX7_judged) := goodIn_app (goodIn_of _ (by decide +kernel)) ggX7_verdict_X7_judged
theorem dX7_verdict_0 : decode cX7_verdict 0 = .ok (.aload_n 0, 1) := by decide +kernel
theorem dX7_verdict_1 : decode cX7_verdict 1 = .ok (.iload_n 1, 1) := by decide +kernel
theorem dX7_verdict_2 : decode cX7_verdict 2 = .ok (.bipush 100, 2) := by decide +kernel
theorem dX7_verdict_4 : decode cX7_verdict 4 = .ok (.invokevirtual 149, 3) := by decide +kernel
theorem dX7_verdict_7 : decode cX7_verdict 7 = .ok (.ifCond .eq 8, 3) := by decide +kernel
theorem dX7_verdict_10 : decode cX7_verdict 10 = .ok (.bipush 102, 2) := by decide +kernel
theorem dX7_verdict_12 : decode cX7_verdict 12 = .ok (.goto 8, 3) := by decide +kernel
theorem dX7_verdict_15 : decode cX7_verdict 15 = .ok (.aload_n 0, 1) := by decide +kernel
theorem dX7_verdict_16 : decode cX7_verdict 16 = .ok (.iload_n 1, 1) := by decide +kernel
theorem dX7_verdict_17 : decode cX7_verdict 17 = .ok (.invokevirtual 153, 3) := by decide +kernel
theorem dX7_verdict_20 : decode cX7_verdict 20 = .ok (.ireturn, 1) := by decide +kernel
set_option maxRecDepth 20000 in
theorem ggX7_judge_X7_isNot : GoodIn wsX7_judge wsX7_isNot := goodIn_ca (goodIn_r _ [12, 1, 13, 14, 15, 16, 11, 17, 18, 19, 20, 21, 41, 42, 43, 44, 45, 46, 47, 48, 49, 50, 51, 52, 53, 54, 55, 56, 57, 58, 59, 60, 61, 62, 63, 64, 65, 66, 67, 68, 69] (by decide +kernel) (by decide +kernel)) (goodIn_sub (fun _ h => List.mem_cons_of_mem _ (List.mem_append_right _ h)) (by decide +kernel))
set_option maxRecDepth 20000 in
theorem gX7_judge_X7_isNot : GoodIn wsX7_judge (wsV RX7 149 RX7 yX7_isNot wsX7_isNot) := goodIn_app (goodIn_of _ (by decide +kernel)) ggX7_judge_X7_isNot
set_option maxRecDepth 20000 in
theorem ggX7_judge_X7_judged : GoodIn wsX7_judge wsX7_judged := goodIn_ca (goodIn_r _ [25, 26, 7, 18, 1, 27, 28, 29, 11, 30, 31, 32, 33, 34, 35, 36, 37, 38, 39, 40, 41, 42, 43, 44, 45, 46, 47, 48, 49, 50, 51, 52, 53, 54, 55, 56, 57, 58, 59, 60, 61, 62, 63, 64, 65, 66, 67, 68, 69] (by decide +kernel) (by decide +kernel)) (goodIn_sub (fun _ h => List.mem_cons_of_mem _ (List.mem_append_right _ h)) (by decide +kernel))
set_option maxRecDepth 20000 in
theorem gX7_judge_X7_judged : GoodIn wsX7_judge (wsV RX7 153 RX7 yX7_judged wsX7_judged) := goodIn_app (goodIn_of _ (by decide +kernel)) ggX7_judge_X7_judged
theorem dX7_judge_0 : decode cX7_judge 0 = .ok (.aload_n 0, 1) := by decide +kernel
theorem dX7_judge_1 : decode cX7_judge 1 = .ok (.iload_n 1, 1) := by decide +kernel
theorem dX7_judge_2 : decode cX7_judge 2 = .ok (.bipush 100, 2) := by decide +kernel
theorem dX7_judge_4 : decode cX7_judge 4 = .ok (.invokevirtual 149, 3) := by decide +kernel
theorem dX7_judge_7 : decode cX7_judge 7 = .ok (.ifCond .eq 5, 3) := by decide +kernel
theorem dX7_judge_10 : decode cX7_judge 10 = .ok (.iconst 0, 1) := by decide +kernel
theorem dX7_judge_11 : decode cX7_judge 11 = .ok (.ireturn, 1) := by decide +kernel
theorem dX7_judge_12 : decode cX7_judge 12 = .ok (.aload_n 0, 1) := by decide +kernel
theorem dX7_judge_13 : decode cX7_judge 13 = .ok (.iload_n 1, 1) := by decide +kernel
theorem dX7_judge_14 : decode cX7_judge 14 = .ok (.invokevirtual 153, 3) := by decide +kernel
theorem dX7_judge_17 : decode cX7_judge 17 = .ok (.bipush 112, 2) := by decide +kernel
theorem dX7_judge_19 : decode cX7_judge 19 = .ok (.if_icmp .ne 7, 3) := by decide +kernel
theorem dX7_judge_22 : decode cX7_judge 22 = .ok (.iconst 1, 1) := by decide +kernel
theorem dX7_judge_23 : decode cX7_judge 23 = .ok (.goto 4, 3) := by decide +kernel
theorem dX7_judge_26 : decode cX7_judge 26 = .ok (.iconst 0, 1) := by decide +kernel
theorem dX7_judge_27 : decode cX7_judge 27 = .ok (.istore_n 2, 1) := by decide +kernel
theorem dX7_judge_28 : decode cX7_judge 28 = .ok (.aload_n 0, 1) := by decide +kernel
theorem dX7_judge_29 : decode cX7_judge 29 = .ok (.getfield 59, 3) := by decide +kernel
theorem dX7_judge_32 : decode cX7_judge 32 = .ok (.iload_n 1, 1) := by decide +kernel
theorem dX7_judge_33 : decode cX7_judge 33 = .ok (.iload_n 2, 1) := by decide +kernel
theorem dX7_judge_34 : decode cX7_judge 34 = .ok (.ifCond .eq 8, 3) := by decide +kernel
theorem dX7_judge_37 : decode cX7_judge 37 = .ok (.bipush 112, 2) := by decide +kernel
theorem dX7_judge_39 : decode cX7_judge 39 = .ok (.goto 5, 3) := by decide +kernel
theorem dX7_judge_42 : decode cX7_judge 42 = .ok (.bipush 120, 2) := by decide +kernel
theorem dX7_judge_44 : decode cX7_judge 44 = .ok (.castore, 1) := by decide +kernel
theorem dX7_judge_45 : decode cX7_judge 45 = .ok (.iload_n 2, 1) := by decide +kernel
theorem dX7_judge_46 : decode cX7_judge 46 = .ok (.ifCond .eq 45, 3) := by decide +kernel
theorem dX7_judge_49 : decode cX7_judge 49 = .ok (.aload_n 0, 1) := by decide +kernel
theorem dX7_judge_50 : decode cX7_judge 50 = .ok (.getfield 53, 3) := by decide +kernel
theorem dX7_judge_53 : decode cX7_judge 53 = .ok (.iload_n 1, 1) := by decide +kernel
theorem dX7_judge_54 : decode cX7_judge 54 = .ok (.iaload, 1) := by decide +kernel
theorem dX7_judge_55 : decode cX7_judge 55 = .ok (.aload_n 0, 1) := by decide +kernel
theorem dX7_judge_56 : decode cX7_judge 56 = .ok (.getfield 75, 3) := by decide +kernel
theorem dX7_judge_59 : decode cX7_judge 59 = .ok (.aload_n 0, 1) := by decide +kernel
theorem dX7_judge_60 : decode cX7_judge 60 = .ok (.getfield 47, 3) := by decide +kernel
theorem dX7_judge_63 : decode cX7_judge 63 = .ok (.iload_n 1, 1) := by decide +kernel
theorem dX7_judge_64 : decode cX7_judge 64 = .ok (.iaload, 1) := by decide +kernel
theorem dX7_judge_65 : decode cX7_judge 65 = .ok (.iaload, 1) := by decide +kernel
theorem dX7_judge_66 : decode cX7_judge 66 = .ok (.if_icmp .ne 25, 3) := by decide +kernel
theorem dX7_judge_69 : decode cX7_judge 69 = .ok (.aload_n 0, 1) := by decide +kernel
theorem dX7_judge_70 : decode cX7_judge 70 = .ok (.getfield 69, 3) := by decide +kernel
theorem dX7_judge_73 : decode cX7_judge 73 = .ok (.aload_n 0, 1) := by decide +kernel
theorem dX7_judge_74 : decode cX7_judge 74 = .ok (.getfield 47, 3) := by decide +kernel
theorem dX7_judge_77 : decode cX7_judge 77 = .ok (.iload_n 1, 1) := by decide +kernel
theorem dX7_judge_78 : decode cX7_judge 78 = .ok (.iaload, 1) := by decide +kernel
theorem dX7_judge_79 : decode cX7_judge 79 = .ok (.aload_n 0, 1) := by decide +kernel
theorem dX7_judge_80 : decode cX7_judge 80 = .ok (.getfield 23, 3) := by decide +kernel
theorem dX7_judge_83 : decode cX7_judge 83 = .ok (.aload_n 0, 1) := by decide +kernel
theorem dX7_judge_84 : decode cX7_judge 84 = .ok (.getfield 38, 3) := by decide +kernel
theorem dX7_judge_87 : decode cX7_judge 87 = .ok (.iload_n 1, 1) := by decide +kernel
theorem dX7_judge_88 : decode cX7_judge 88 = .ok (.iaload, 1) := by decide +kernel
theorem dX7_judge_89 : decode cX7_judge 89 = .ok (.iaload, 1) := by decide +kernel
theorem dX7_judge_90 : decode cX7_judge 90 = .ok (.iastore, 1) := by decide +kernel
theorem dX7_judge_91 : decode cX7_judge 91 = .ok (.iload_n 2, 1) := by decide +kernel
theorem dX7_judge_92 : decode cX7_judge 92 = .ok (.ireturn, 1) := by decide +kernel
theorem dX7_waiting_0 : decode cX7_waiting 0 = .ok (.iconst 0, 1) := by decide +kernel
theorem dX7_waiting_1 : decode cX7_waiting 1 = .ok (.istore_n 1, 1) := by decide +kernel
theorem dX7_waiting_2 : decode cX7_waiting 2 = .ok (.iconst 0, 1) := by decide +kernel
theorem dX7_waiting_3 : decode cX7_waiting 3 = .ok (.istore_n 2, 1) := by decide +kernel
theorem dX7_waiting_4 : decode cX7_waiting 4 = .ok (.iload_n 2, 1) := by decide +kernel
theorem dX7_waiting_5 : decode cX7_waiting 5 = .ok (.aload_n 0, 1) := by decide +kernel
theorem dX7_waiting_6 : decode cX7_waiting 6 = .ok (.getfield 92, 3) := by decide +kernel
theorem dX7_waiting_9 : decode cX7_waiting 9 = .ok (.if_icmp .ge 28, 3) := by decide +kernel
theorem dX7_waiting_12 : decode cX7_waiting 12 = .ok (.iload_n 1, 1) := by decide +kernel
theorem dX7_waiting_13 : decode cX7_waiting 13 = .ok (.aload_n 0, 1) := by decide +kernel
theorem dX7_waiting_14 : decode cX7_waiting 14 = .ok (.getfield 59, 3) := by decide +kernel
theorem dX7_waiting_17 : decode cX7_waiting 17 = .ok (.iload_n 2, 1) := by decide +kernel
theorem dX7_waiting_18 : decode cX7_waiting 18 = .ok (.caload, 1) := by decide +kernel
theorem dX7_waiting_19 : decode cX7_waiting 19 = .ok (.bipush 119, 2) := by decide +kernel
theorem dX7_waiting_21 : decode cX7_waiting 21 = .ok (.if_icmp .ne 7, 3) := by decide +kernel
theorem dX7_waiting_24 : decode cX7_waiting 24 = .ok (.iconst 1, 1) := by decide +kernel
theorem dX7_waiting_25 : decode cX7_waiting 25 = .ok (.goto 4, 3) := by decide +kernel
theorem dX7_waiting_28 : decode cX7_waiting 28 = .ok (.iconst 0, 1) := by decide +kernel
theorem dX7_waiting_29 : decode cX7_waiting 29 = .ok (.iadd, 1) := by decide +kernel
theorem dX7_waiting_30 : decode cX7_waiting 30 = .ok (.istore_n 1, 1) := by decide +kernel
theorem dX7_waiting_31 : decode cX7_waiting 31 = .ok (.iinc 2 1, 3) := by decide +kernel
theorem dX7_waiting_34 : decode cX7_waiting 34 = .ok (.goto (-30), 3) := by decide +kernel
theorem dX7_waiting_37 : decode cX7_waiting 37 = .ok (.iload_n 1, 1) := by decide +kernel
theorem dX7_waiting_38 : decode cX7_waiting 38 = .ok (.ireturn, 1) := by decide +kernel
set_option maxRecDepth 20000 in
theorem ggX7_again_X7_isNot : GoodIn wsX7_again wsX7_isNot := goodIn_ca (goodIn_r _ [6, 1, 7, 8, 9, 10, 5, 11, 12, 13, 14, 15, 20, 21, 22, 23, 24, 25, 26, 27, 28, 29, 30, 31, 32, 33, 34, 35, 36, 37, 38, 39, 40, 41, 42, 43, 44, 45, 46, 47, 48] (by decide +kernel) (by decide +kernel)) (goodIn_sub (fun _ h => List.mem_cons_of_mem _ (List.mem_append_right _ h)) (by decide +kernel))
set_option maxRecDepth 20000 in
theorem gX7_again_X7_isNot : GoodIn wsX7_again (wsV RX7 149 RX7 yX7_isNot wsX7_isNot) := goodIn_app (goodIn_of _ (by decide +kernel)) ggX7_again_X7_isNot
set_option maxRecDepth 20000 in
theorem ggX7_again_X7_waiting : GoodIn wsX7_again wsX7_waiting := goodIn_ca (goodIn_r _ [19, 12, 1, 20, 21, 22, 23, 24, 25, 26, 27, 28, 29, 30, 31, 32, 33, 34, 35, 36, 37, 38, 39, 40, 41, 42, 43, 44, 45, 46, 47, 48] (by decide +kernel) (by decide +kernel)) (goodIn_sub (fun _ h => List.mem_cons_of_mem _ (List.mem_append_right _ h)) (by decide +kernel))
set_option maxRecDepth 20000 in
theorem gX7_again_X7_waiting : GoodIn wsX7_again (wsV RX7 157 RX7 yX7_waiting wsX7_waiting) := goodIn_app (goodIn_of _ (by decide +kernel)) ggX7_again_X7_waiting
theorem dX7_again_0 : decode cX7_again 0 = .ok (.aload_n 0, 1) := by decide +kernel
theorem dX7_again_1 : decode cX7_again 1 = .ok (.iload_n 1, 1) := by decide +kernel
theorem dX7_again_2 : decode cX7_again 2 = .ok (.bipush 120, 2) := by decide +kernel
theorem dX7_again_4 : decode cX7_again 4 = .ok (.invokevirtual 149, 3) := by decide +kernel
theorem dX7_again_7 : decode cX7_again 7 = .ok (.ifCond .eq 5, 3) := by decide +kernel
theorem dX7_again_10 : decode cX7_again 10 = .ok (.iconst 0, 1) := by decide +kernel
theorem dX7_again_11 : decode cX7_again 11 = .ok (.ireturn, 1) := by decide +kernel
theorem dX7_again_12 : decode cX7_again 12 = .ok (.aload_n 0, 1) := by decide +kernel
theorem dX7_again_13 : decode cX7_again 13 = .ok (.getfield 59, 3) := by decide +kernel
theorem dX7_again_16 : decode cX7_again 16 = .ok (.iload_n 1, 1) := by decide +kernel
theorem dX7_again_17 : decode cX7_again 17 = .ok (.bipush 119, 2) := by decide +kernel
theorem dX7_again_19 : decode cX7_again 19 = .ok (.castore, 1) := by decide +kernel
theorem dX7_again_20 : decode cX7_again 20 = .ok (.aload_n 0, 1) := by decide +kernel
theorem dX7_again_21 : decode cX7_again 21 = .ok (.invokevirtual 157, 3) := by decide +kernel
theorem dX7_again_24 : decode cX7_again 24 = .ok (.ireturn, 1) := by decide +kernel
theorem dX7_inPlan_0 : decode cX7_inPlan 0 = .ok (.iconst 0, 1) := by decide +kernel
theorem dX7_inPlan_1 : decode cX7_inPlan 1 = .ok (.istore_n 2, 1) := by decide +kernel
theorem dX7_inPlan_2 : decode cX7_inPlan 2 = .ok (.iconst 0, 1) := by decide +kernel
theorem dX7_inPlan_3 : decode cX7_inPlan 3 = .ok (.istore_n 3, 1) := by decide +kernel
theorem dX7_inPlan_4 : decode cX7_inPlan 4 = .ok (.iload_n 3, 1) := by decide +kernel
theorem dX7_inPlan_5 : decode cX7_inPlan 5 = .ok (.aload_n 0, 1) := by decide +kernel
theorem dX7_inPlan_6 : decode cX7_inPlan 6 = .ok (.getfield 92, 3) := by decide +kernel
theorem dX7_inPlan_9 : decode cX7_inPlan 9 = .ok (.if_icmp .ge 27, 3) := by decide +kernel
theorem dX7_inPlan_12 : decode cX7_inPlan 12 = .ok (.iload_n 2, 1) := by decide +kernel
theorem dX7_inPlan_13 : decode cX7_inPlan 13 = .ok (.aload_n 0, 1) := by decide +kernel
theorem dX7_inPlan_14 : decode cX7_inPlan 14 = .ok (.getfield 56, 3) := by decide +kernel
theorem dX7_inPlan_17 : decode cX7_inPlan 17 = .ok (.iload_n 3, 1) := by decide +kernel
theorem dX7_inPlan_18 : decode cX7_inPlan 18 = .ok (.iaload, 1) := by decide +kernel
theorem dX7_inPlan_19 : decode cX7_inPlan 19 = .ok (.iload_n 1, 1) := by decide +kernel
theorem dX7_inPlan_20 : decode cX7_inPlan 20 = .ok (.if_icmp .ne 7, 3) := by decide +kernel
theorem dX7_inPlan_23 : decode cX7_inPlan 23 = .ok (.iconst 1, 1) := by decide +kernel
theorem dX7_inPlan_24 : decode cX7_inPlan 24 = .ok (.goto 4, 3) := by decide +kernel
theorem dX7_inPlan_27 : decode cX7_inPlan 27 = .ok (.iconst 0, 1) := by decide +kernel
theorem dX7_inPlan_28 : decode cX7_inPlan 28 = .ok (.iadd, 1) := by decide +kernel
theorem dX7_inPlan_29 : decode cX7_inPlan 29 = .ok (.istore_n 2, 1) := by decide +kernel
theorem dX7_inPlan_30 : decode cX7_inPlan 30 = .ok (.iinc 3 1, 3) := by decide +kernel
theorem dX7_inPlan_33 : decode cX7_inPlan 33 = .ok (.goto (-29), 3) := by decide +kernel
theorem dX7_inPlan_36 : decode cX7_inPlan 36 = .ok (.iload_n 2, 1) := by decide +kernel
theorem dX7_inPlan_37 : decode cX7_inPlan 37 = .ok (.ireturn, 1) := by decide +kernel
set_option maxRecDepth 20000 in
theorem ggX7_plan_X7_noLot : GoodIn wsX7_plan wsX7_noLot := goodIn_r _ [9, 10, 11, 12, 13, 8, 14, 28, 29, 30, 31, 32, 33, 34, 35, 36, 37, 38, 39, 40, 41, 42, 43, 44, 45, 46, 47, 48, 49, 50, 51, 52, 53, 54, 55, 56] (by decide +kernel) (by decide +kernel)
set_option maxRecDepth 20000 in
theorem gX7_plan_X7_noLot : GoodIn wsX7_plan (wsV RX7 120 RX7 yX7_noLot wsX7_noLot) := goodIn_app (goodIn_of _ (by decide +kernel)) ggX7_plan_X7_noLot
set_option maxRecDepth 20000 in
theorem ggX7_plan_X7_noVat : GoodIn wsX7_plan wsX7_noVat := goodIn_r _ [18, 19, 11, 12, 13, 8, 14, 28, 29, 30, 31, 32, 33, 34, 35, 36, 37, 38, 39, 40, 41, 42, 43, 44, 45, 46, 47, 48, 49, 50, 51, 52, 53, 54, 55, 56] (by decide +kernel) (by decide +kernel)
set_option maxRecDepth 20000 in
theorem gX7_plan_X7_noVat : GoodIn wsX7_plan (wsV RX7 133 RX7 yX7_noVat wsX7_noVat) := goodIn_app (goodIn_of _ (by decide +kernel)) ggX7_plan_X7_noVat
set_option maxRecDepth 20000 in
theorem ggX7_plan_X7_inPlan : GoodIn wsX7_plan wsX7_inPlan := goodIn_ca (goodIn_r _ [23, 10, 2, 28, 29, 30, 31, 32, 33, 34, 35, 36, 37, 38, 39, 40, 41, 42, 43, 44, 45, 46, 47, 48, 49, 50, 51, 52, 53, 54, 55, 56] (by decide +kernel) (by decide +kernel)) (goodIn_sub (fun _ h => List.mem_cons_of_mem _ (List.mem_append_right _ h)) (by decide +kernel))
set_option maxRecDepth 20000 in
theorem gX7_plan_X7_inPlan : GoodIn wsX7_plan (wsV RX7 161 RX7 yX7_inPlan wsX7_inPlan) := goodIn_app (goodIn_of _ (by decide +kernel)) ggX7_plan_X7_inPlan
set_option maxRecDepth 20000 in
theorem ggX7_plan_X7_refuse : GoodIn wsX7_plan wsX7_refuse := goodIn_r _ [27, 11, 28, 29, 30, 31, 32, 33, 34, 35, 36, 37, 38, 39, 40, 41, 42, 43, 44, 45, 46, 47, 48, 49, 50, 51, 52, 53, 54, 55, 56] (by decide +kernel) (by decide +kernel)
set_option maxRecDepth 20000 in
theorem gX7_plan_X7_refuse : GoodIn wsX7_plan (wsV RX7 104 RX7 yX7_refuse wsX7_refuse) := goodIn_app (goodIn_of _ (by decide +kernel)) ggX7_plan_X7_refuse
theorem dX7_plan_0 : decode cX7_plan 0 = .ok (.aload_n 0, 1) := by decide +kernel
theorem dX7_plan_1 : decode cX7_plan 1 = .ok (.iload_n 1, 1) := by decide +kernel
theorem dX7_plan_2 : decode cX7_plan 2 = .ok (.invokevirtual 120, 3) := by decide +kernel
theorem dX7_plan_5 : decode cX7_plan 5 = .ok (.ifCond .ne 11, 3) := by decide +kernel
theorem dX7_plan_8 : decode cX7_plan 8 = .ok (.aload_n 0, 1) := by decide +kernel
theorem dX7_plan_9 : decode cX7_plan 9 = .ok (.iload_n 2, 1) := by decide +kernel
theorem dX7_plan_10 : decode cX7_plan 10 = .ok (.invokevirtual 133, 3) := by decide +kernel
theorem dX7_plan_13 : decode cX7_plan 13 = .ok (.ifCond .eq 5, 3) := by decide +kernel
theorem dX7_plan_16 : decode cX7_plan 16 = .ok (.iconst 0, 1) := by decide +kernel
theorem dX7_plan_17 : decode cX7_plan 17 = .ok (.ireturn, 1) := by decide +kernel
theorem dX7_plan_18 : decode cX7_plan 18 = .ok (.aload_n 0, 1) := by decide +kernel
theorem dX7_plan_19 : decode cX7_plan 19 = .ok (.getfield 59, 3) := by decide +kernel
theorem dX7_plan_22 : decode cX7_plan 22 = .ok (.iload_n 1, 1) := by decide +kernel
theorem dX7_plan_23 : decode cX7_plan 23 = .ok (.caload, 1) := by decide +kernel
theorem dX7_plan_24 : decode cX7_plan 24 = .ok (.bipush 119, 2) := by decide +kernel
theorem dX7_plan_26 : decode cX7_plan 26 = .ok (.if_icmp .ne 23, 3) := by decide +kernel
theorem dX7_plan_29 : decode cX7_plan 29 = .ok (.aload_n 0, 1) := by decide +kernel
theorem dX7_plan_30 : decode cX7_plan 30 = .ok (.getfield 56, 3) := by decide +kernel
theorem dX7_plan_33 : decode cX7_plan 33 = .ok (.iload_n 1, 1) := by decide +kernel
theorem dX7_plan_34 : decode cX7_plan 34 = .ok (.iaload, 1) := by decide +kernel
theorem dX7_plan_35 : decode cX7_plan 35 = .ok (.iconst (-1), 1) := by decide +kernel
theorem dX7_plan_36 : decode cX7_plan 36 = .ok (.if_icmp .ne 13, 3) := by decide +kernel
theorem dX7_plan_39 : decode cX7_plan 39 = .ok (.aload_n 0, 1) := by decide +kernel
theorem dX7_plan_40 : decode cX7_plan 40 = .ok (.iload_n 2, 1) := by decide +kernel
theorem dX7_plan_41 : decode cX7_plan 41 = .ok (.invokevirtual 161, 3) := by decide +kernel
theorem dX7_plan_44 : decode cX7_plan 44 = .ok (.bipush 6, 2) := by decide +kernel
theorem dX7_plan_46 : decode cX7_plan 46 = .ok (.if_icmp .ne 9, 3) := by decide +kernel
theorem dX7_plan_49 : decode cX7_plan 49 = .ok (.aload_n 0, 1) := by decide +kernel
theorem dX7_plan_50 : decode cX7_plan 50 = .ok (.iconst 2, 1) := by decide +kernel
theorem dX7_plan_51 : decode cX7_plan 51 = .ok (.invokevirtual 104, 3) := by decide +kernel
theorem dX7_plan_54 : decode cX7_plan 54 = .ok (.ireturn, 1) := by decide +kernel
theorem dX7_plan_55 : decode cX7_plan 55 = .ok (.aload_n 0, 1) := by decide +kernel
theorem dX7_plan_56 : decode cX7_plan 56 = .ok (.getfield 41, 3) := by decide +kernel
theorem dX7_plan_59 : decode cX7_plan 59 = .ok (.iload_n 1, 1) := by decide +kernel
theorem dX7_plan_60 : decode cX7_plan 60 = .ok (.iaload, 1) := by decide +kernel
theorem dX7_plan_61 : decode cX7_plan 61 = .ok (.aload_n 0, 1) := by decide +kernel
theorem dX7_plan_62 : decode cX7_plan 62 = .ok (.getfield 63, 3) := by decide +kernel
theorem dX7_plan_65 : decode cX7_plan 65 = .ok (.iload_n 2, 1) := by decide +kernel
theorem dX7_plan_66 : decode cX7_plan 66 = .ok (.iaload, 1) := by decide +kernel
theorem dX7_plan_67 : decode cX7_plan 67 = .ok (.if_icmp .le 9, 3) := by decide +kernel
theorem dX7_plan_70 : decode cX7_plan 70 = .ok (.aload_n 0, 1) := by decide +kernel
theorem dX7_plan_71 : decode cX7_plan 71 = .ok (.iconst 3, 1) := by decide +kernel
theorem dX7_plan_72 : decode cX7_plan 72 = .ok (.invokevirtual 104, 3) := by decide +kernel
theorem dX7_plan_75 : decode cX7_plan 75 = .ok (.ireturn, 1) := by decide +kernel
theorem dX7_plan_76 : decode cX7_plan 76 = .ok (.aload_n 0, 1) := by decide +kernel
theorem dX7_plan_77 : decode cX7_plan 77 = .ok (.getfield 56, 3) := by decide +kernel
theorem dX7_plan_80 : decode cX7_plan 80 = .ok (.iload_n 1, 1) := by decide +kernel
theorem dX7_plan_81 : decode cX7_plan 81 = .ok (.iload_n 2, 1) := by decide +kernel
theorem dX7_plan_82 : decode cX7_plan 82 = .ok (.iastore, 1) := by decide +kernel
theorem dX7_plan_83 : decode cX7_plan 83 = .ok (.aload_n 0, 1) := by decide +kernel
theorem dX7_plan_84 : decode cX7_plan 84 = .ok (.iload_n 2, 1) := by decide +kernel
theorem dX7_plan_85 : decode cX7_plan 85 = .ok (.invokevirtual 161, 3) := by decide +kernel
theorem dX7_plan_88 : decode cX7_plan 88 = .ok (.ireturn, 1) := by decide +kernel
set_option maxRecDepth 20000 in
theorem ggX7_unplan_X7_noLot : GoodIn wsX7_unplan wsX7_noLot := goodIn_r _ [6, 7, 8, 9, 10, 5, 11, 16, 17, 18, 19, 20, 21, 22, 23, 24, 25, 26, 27, 28, 29, 30, 31, 32, 33, 34, 35, 36, 37, 38, 39, 40, 41, 42, 43, 44] (by decide +kernel) (by decide +kernel)
set_option maxRecDepth 20000 in
theorem gX7_unplan_X7_noLot : GoodIn wsX7_unplan (wsV RX7 120 RX7 yX7_noLot wsX7_noLot) := goodIn_app (goodIn_of _ (by decide +kernel)) ggX7_unplan_X7_noLot
set_option maxRecDepth 20000 in
theorem ggX7_unplan_X7_refuse : GoodIn wsX7_unplan wsX7_refuse := goodIn_r _ [15, 8, 16, 17, 18, 19, 20, 21, 22, 23, 24, 25, 26, 27, 28, 29, 30, 31, 32, 33, 34, 35, 36, 37, 38, 39, 40, 41, 42, 43, 44] (by decide +kernel) (by decide +kernel)
set_option maxRecDepth 20000 in
theorem gX7_unplan_X7_refuse : GoodIn wsX7_unplan (wsV RX7 104 RX7 yX7_refuse wsX7_refuse) := goodIn_app (goodIn_of _ (by decide +kernel)) ggX7_unplan_X7_refuse
theorem dX7_unplan_0 : decode cX7_unplan 0 = .ok (.aload_n 0, 1) := by decide +kernel
theorem dX7_unplan_1 : decode cX7_unplan 1 = .ok (.iload_n 1, 1) := by decide +kernel
theorem dX7_unplan_2 : decode cX7_unplan 2 = .ok (.invokevirtual 120, 3) := by decide +kernel
theorem dX7_unplan_5 : decode cX7_unplan 5 = .ok (.ifCond .eq 5, 3) := by decide +kernel
theorem dX7_unplan_8 : decode cX7_unplan 8 = .ok (.iconst 0, 1) := by decide +kernel
theorem dX7_unplan_9 : decode cX7_unplan 9 = .ok (.ireturn, 1) := by decide +kernel
theorem dX7_unplan_10 : decode cX7_unplan 10 = .ok (.aload_n 0, 1) := by decide +kernel
theorem dX7_unplan_11 : decode cX7_unplan 11 = .ok (.getfield 56, 3) := by decide +kernel
theorem dX7_unplan_14 : decode cX7_unplan 14 = .ok (.iload_n 1, 1) := by decide +kernel
theorem dX7_unplan_15 : decode cX7_unplan 15 = .ok (.iaload, 1) := by decide +kernel
theorem dX7_unplan_16 : decode cX7_unplan 16 = .ok (.iconst (-1), 1) := by decide +kernel
theorem dX7_unplan_17 : decode cX7_unplan 17 = .ok (.if_icmp .ne 9, 3) := by decide +kernel
theorem dX7_unplan_20 : decode cX7_unplan 20 = .ok (.aload_n 0, 1) := by decide +kernel
theorem dX7_unplan_21 : decode cX7_unplan 21 = .ok (.iconst 2, 1) := by decide +kernel
theorem dX7_unplan_22 : decode cX7_unplan 22 = .ok (.invokevirtual 104, 3) := by decide +kernel
theorem dX7_unplan_25 : decode cX7_unplan 25 = .ok (.ireturn, 1) := by decide +kernel
theorem dX7_unplan_26 : decode cX7_unplan 26 = .ok (.aload_n 0, 1) := by decide +kernel
theorem dX7_unplan_27 : decode cX7_unplan 27 = .ok (.getfield 56, 3) := by decide +kernel
theorem dX7_unplan_30 : decode cX7_unplan 30 = .ok (.iload_n 1, 1) := by decide +kernel
theorem dX7_unplan_31 : decode cX7_unplan 31 = .ok (.iaload, 1) := by decide +kernel
theorem dX7_unplan_32 : decode cX7_unplan 32 = .ok (.istore_n 2, 1) := by decide +kernel
theorem dX7_unplan_33 : decode cX7_unplan 33 = .ok (.aload_n 0, 1) := by decide +kernel
theorem dX7_unplan_34 : decode cX7_unplan 34 = .ok (.getfield 56, 3) := by decide +kernel
theorem dX7_unplan_37 : decode cX7_unplan 37 = .ok (.iload_n 1, 1) := by decide +kernel
theorem dX7_unplan_38 : decode cX7_unplan 38 = .ok (.iconst (-1), 1) := by decide +kernel
theorem dX7_unplan_39 : decode cX7_unplan 39 = .ok (.iastore, 1) := by decide +kernel
theorem dX7_unplan_40 : decode cX7_unplan 40 = .ok (.iload_n 2, 1) := by decide +kernel
theorem dX7_unplan_41 : decode cX7_unplan 41 = .ok (.ireturn, 1) := by decide +kernel
set_option maxRecDepth 20000 in
theorem ggX7_planned_X7_noVat : GoodIn wsX7_planned wsX7_noVat := goodIn_r _ [5, 6, 7, 8, 9, 4, 10, 17, 18, 19, 20, 21, 22, 23, 24, 25, 26, 27, 28, 29, 30, 31, 32, 33, 34, 35, 36, 37, 38, 39, 40, 41, 42, 43, 44, 45] (by decide +kernel) (by decide +kernel)
set_option maxRecDepth 20000 in
theorem gX7_planned_X7_noVat : GoodIn wsX7_planned (wsV RX7 133 RX7 yX7_noVat wsX7_noVat) := goodIn_app (goodIn_of _ (by decide +kernel)) ggX7_planned_X7_noVat
set_option maxRecDepth 20000 in
theorem ggX7_planned_X7_inPlan : GoodIn wsX7_planned wsX7_inPlan := goodIn_ca (goodIn_r _ [14, 15, 16, 17, 18, 19, 20, 21, 22, 23, 24, 25, 26, 27, 28, 29, 30, 31, 32, 33, 34, 35, 36, 37, 38, 39, 40, 41, 42, 43, 44, 45] (by decide +kernel) (by decide +kernel)) (goodIn_sub (fun _ h => List.mem_cons_of_mem _ (List.mem_append_right _ h)) (by decide +kernel))
set_option maxRecDepth 20000 in
theorem gX7_planned_X7_inPlan : GoodIn wsX7_planned (wsV RX7 161 RX7 yX7_inPlan wsX7_inPlan) := goodIn_app (goodIn_of _ (by decide +kernel)) ggX7_planned_X7_inPlan
theorem dX7_planned_0 : decode cX7_planned 0 = .ok (.aload_n 0, 1) := by decide +kernel
theorem dX7_planned_1 : decode cX7_planned 1 = .ok (.iload_n 1, 1) := by decide +kernel
theorem dX7_planned_2 : decode cX7_planned 2 = .ok (.invokevirtual 133, 3) := by decide +kernel
theorem dX7_planned_5 : decode cX7_planned 5 = .ok (.ifCond .eq 7, 3) := by decide +kernel
theorem dX7_planned_8 : decode cX7_planned 8 = .ok (.iconst 0, 1) := by decide +kernel
theorem dX7_planned_9 : decode cX7_planned 9 = .ok (.goto 8, 3) := by decide +kernel
theorem dX7_planned_12 : decode cX7_planned 12 = .ok (.aload_n 0, 1) := by decide +kernel
theorem dX7_planned_13 : decode cX7_planned 13 = .ok (.iload_n 1, 1) := by decide +kernel
theorem dX7_planned_14 : decode cX7_planned 14 = .ok (.invokevirtual 161, 3) := by decide +kernel
theorem dX7_planned_17 : decode cX7_planned 17 = .ok (.ireturn, 1) := by decide +kernel
theorem dX7_lotAt_0 : decode cX7_lotAt 0 = .ok (.iconst 0, 1) := by decide +kernel
theorem dX7_lotAt_1 : decode cX7_lotAt 1 = .ok (.istore_n 3, 1) := by decide +kernel
theorem dX7_lotAt_2 : decode cX7_lotAt 2 = .ok (.iconst 0, 1) := by decide +kernel
theorem dX7_lotAt_3 : decode cX7_lotAt 3 = .ok (.istore 4, 2) := by decide +kernel
theorem dX7_lotAt_5 : decode cX7_lotAt 5 = .ok (.iload 4, 2) := by decide +kernel
theorem dX7_lotAt_7 : decode cX7_lotAt 7 = .ok (.aload_n 0, 1) := by decide +kernel
theorem dX7_lotAt_8 : decode cX7_lotAt 8 = .ok (.getfield 92, 3) := by decide +kernel
theorem dX7_lotAt_11 : decode cX7_lotAt 11 = .ok (.if_icmp .ge 34, 3) := by decide +kernel
theorem dX7_lotAt_14 : decode cX7_lotAt 14 = .ok (.aload_n 0, 1) := by decide +kernel
theorem dX7_lotAt_15 : decode cX7_lotAt 15 = .ok (.getfield 56, 3) := by decide +kernel
theorem dX7_lotAt_18 : decode cX7_lotAt 18 = .ok (.iload 4, 2) := by decide +kernel
theorem dX7_lotAt_20 : decode cX7_lotAt 20 = .ok (.iaload, 1) := by decide +kernel
theorem dX7_lotAt_21 : decode cX7_lotAt 21 = .ok (.iload_n 1, 1) := by decide +kernel
theorem dX7_lotAt_22 : decode cX7_lotAt 22 = .ok (.if_icmp .eq 6, 3) := by decide +kernel
theorem dX7_lotAt_25 : decode cX7_lotAt 25 = .ok (.goto 14, 3) := by decide +kernel
theorem dX7_lotAt_28 : decode cX7_lotAt 28 = .ok (.iload_n 3, 1) := by decide +kernel
theorem dX7_lotAt_29 : decode cX7_lotAt 29 = .ok (.iload_n 2, 1) := by decide +kernel
theorem dX7_lotAt_30 : decode cX7_lotAt 30 = .ok (.if_icmp .ne 6, 3) := by decide +kernel
theorem dX7_lotAt_33 : decode cX7_lotAt 33 = .ok (.iload 4, 2) := by decide +kernel
theorem dX7_lotAt_35 : decode cX7_lotAt 35 = .ok (.ireturn, 1) := by decide +kernel
theorem dX7_lotAt_36 : decode cX7_lotAt 36 = .ok (.iinc 3 1, 3) := by decide +kernel
theorem dX7_lotAt_39 : decode cX7_lotAt 39 = .ok (.iinc 4 1, 3) := by decide +kernel
theorem dX7_lotAt_42 : decode cX7_lotAt 42 = .ok (.goto (-37), 3) := by decide +kernel
theorem dX7_lotAt_45 : decode cX7_lotAt 45 = .ok (.iconst (-1), 1) := by decide +kernel
theorem dX7_lotAt_46 : decode cX7_lotAt 46 = .ok (.ireturn, 1) := by decide +kernel
set_option maxRecDepth 20000 in
theorem ggX7_plannedAt_X7_noVat : GoodIn wsX7_plannedAt wsX7_noVat := goodIn_r _ [5, 6, 7, 8, 9, 4, 10, 21, 22, 23, 24, 25, 26, 27, 28, 29, 30, 31, 32, 33, 34, 35, 36, 37, 38, 39, 40, 41, 42, 43, 44, 45, 46, 47, 48, 49] (by decide +kernel) (by decide +kernel)
set_option maxRecDepth 20000 in
theorem gX7_plannedAt_X7_noVat : GoodIn wsX7_plannedAt (wsV RX7 133 RX7 yX7_noVat wsX7_noVat) := goodIn_app (goodIn_of _ (by decide +kernel)) ggX7_plannedAt_X7_noVat
set_option maxRecDepth 20000 in
theorem ggX7_plannedAt_X7_lotAt : GoodIn wsX7_plannedAt wsX7_lotAt := goodIn_ca (goodIn_r _ [14, 15, 16, 21, 22, 23, 24, 25, 26, 27, 28, 29, 30, 31, 32, 33, 34, 35, 36, 37, 38, 39, 40, 41, 42, 43, 44, 45, 46, 47, 48, 49] (by decide +kernel) (by decide +kernel)) (goodIn_sub (fun _ h => List.mem_cons_of_mem _ (List.mem_append_right _ h)) (by decide +kernel))
set_option maxRecDepth 20000 in
theorem gX7_plannedAt_X7_lotAt : GoodIn wsX7_plannedAt (wsV RX7 164 RX7 yX7_lotAt wsX7_lotAt) := goodIn_app (goodIn_of _ (by decide +kernel)) ggX7_plannedAt_X7_lotAt
set_option maxRecDepth 20000 in
theorem ggX7_plannedAt_X7_refuse : GoodIn wsX7_plannedAt wsX7_refuse := goodIn_r _ [20, 7, 21, 22, 23, 24, 25, 26, 27, 28, 29, 30, 31, 32, 33, 34, 35, 36, 37, 38, 39, 40, 41, 42, 43, 44, 45, 46, 47, 48, 49] (by decide +kernel) (by decide +kernel)
set_option maxRecDepth 20000 in
theorem gX7_plannedAt_X7_refuse : GoodIn wsX7_plannedAt (wsV RX7 104 RX7 yX7_refuse wsX7_refuse) := goodIn_app (goodIn_of _ (by decide +kernel)) ggX7_plannedAt_X7_refuse
theorem dX7_plannedAt_0 : decode cX7_plannedAt 0 = .ok (.aload_n 0, 1) := by decide +kernel
theorem dX7_plannedAt_1 : decode cX7_plannedAt 1 = .ok (.iload_n 1, 1) := by decide +kernel
theorem dX7_plannedAt_2 : decode cX7_plannedAt 2 = .ok (.invokevirtual 133, 3) := by decide +kernel
theorem dX7_plannedAt_5 : decode cX7_plannedAt 5 = .ok (.ifCond .eq 5, 3) := by decide +kernel
theorem dX7_plannedAt_8 : decode cX7_plannedAt 8 = .ok (.iconst 0, 1) := by decide +kernel
theorem dX7_plannedAt_9 : decode cX7_plannedAt 9 = .ok (.ireturn, 1) := by decide +kernel
theorem dX7_plannedAt_10 : decode cX7_plannedAt 10 = .ok (.aload_n 0, 1) := by decide +kernel
theorem dX7_plannedAt_11 : decode cX7_plannedAt 11 = .ok (.iload_n 1, 1) := by decide +kernel
theorem dX7_plannedAt_12 : decode cX7_plannedAt 12 = .ok (.iload_n 2, 1) := by decide +kernel
theorem dX7_plannedAt_13 : decode cX7_plannedAt 13 = .ok (.invokevirtual 164, 3) := by decide +kernel
theorem dX7_plannedAt_16 : decode cX7_plannedAt 16 = .ok (.istore_n 3, 1) := by decide +kernel
theorem dX7_plannedAt_17 : decode cX7_plannedAt 17 = .ok (.iload_n 3, 1) := by decide +kernel
theorem dX7_plannedAt_18 : decode cX7_plannedAt 18 = .ok (.iconst (-1), 1) := by decide +kernel
theorem dX7_plannedAt_19 : decode cX7_plannedAt 19 = .ok (.if_icmp .ne 9, 3) := by decide +kernel
theorem dX7_plannedAt_22 : decode cX7_plannedAt 22 = .ok (.aload_n 0, 1) := by decide +kernel
theorem dX7_plannedAt_23 : decode cX7_plannedAt 23 = .ok (.iconst 2, 1) := by decide +kernel
theorem dX7_plannedAt_24 : decode cX7_plannedAt 24 = .ok (.invokevirtual 104, 3) := by decide +kernel
theorem dX7_plannedAt_27 : decode cX7_plannedAt 27 = .ok (.ireturn, 1) := by decide +kernel
theorem dX7_plannedAt_28 : decode cX7_plannedAt 28 = .ok (.iload_n 3, 1) := by decide +kernel
theorem dX7_plannedAt_29 : decode cX7_plannedAt 29 = .ok (.ireturn, 1) := by decide +kernel
set_option maxRecDepth 20000 in
theorem ggX7_lasts_X7_lightOf : GoodIn wsX7_lasts wsX7_lightOf := goodIn_ca (goodIn_r _ [10, 11, 12, 5, 18, 19, 20, 21, 22, 23, 24, 25, 26, 27, 28, 29, 30, 31, 32, 33, 34, 35, 36, 37, 38, 39, 40, 41, 42, 43, 44, 45, 46] (by decide +kernel) (by decide +kernel)) (goodIn_sub (fun _ h => List.mem_cons_of_mem _ (List.mem_append_right _ h)) (by decide +kernel))
set_option maxRecDepth 20000 in
theorem gX7_lasts_X7_lightOf : GoodIn wsX7_lasts (wsV RX7 130 RX7 yX7_lightOf wsX7_lightOf) := goodIn_app (goodIn_of _ (by decide +kernel)) ggX7_lasts_X7_lightOf
set_option maxRecDepth 20000 in
theorem ggX7_lasts_X7_hours : GoodIn wsX7_lasts wsX7_hours := goodIn_ca (goodIn_r _ [16, 17, 18, 19, 20, 21, 22, 23, 24, 25, 26, 27, 28, 29, 30, 31, 32, 33, 34, 35, 36, 37, 38, 39, 40, 41, 42, 43, 44, 45, 46] (by decide +kernel) (by decide +kernel)) (goodIn_sub (fun _ h => List.mem_cons_of_mem _ (List.mem_append_right _ h)) (by decide +kernel))
set_option maxRecDepth 20000 in
theorem gX7_lasts_X7_hours : GoodIn wsX7_lasts (wsV RX7 127 RX7 yX7_hours wsX7_hours) := goodIn_app (goodIn_of _ (by decide +kernel)) ggX7_lasts_X7_hours
theorem dX7_lasts_0 : decode cX7_lasts 0 = .ok (.iconst 0, 1) := by decide +kernel
theorem dX7_lasts_1 : decode cX7_lasts 1 = .ok (.istore_n 3, 1) := by decide +kernel
theorem dX7_lasts_2 : decode cX7_lasts 2 = .ok (.aload_n 0, 1) := by decide +kernel
theorem dX7_lasts_3 : decode cX7_lasts 3 = .ok (.getfield 66, 3) := by decide +kernel
theorem dX7_lasts_6 : decode cX7_lasts 6 = .ok (.iload_n 1, 1) := by decide +kernel
theorem dX7_lasts_7 : decode cX7_lasts 7 = .ok (.iaload, 1) := by decide +kernel
theorem dX7_lasts_8 : decode cX7_lasts 8 = .ok (.istore 4, 2) := by decide +kernel
theorem dX7_lasts_10 : decode cX7_lasts 10 = .ok (.aload_n 0, 1) := by decide +kernel
theorem dX7_lasts_11 : decode cX7_lasts 11 = .ok (.getfield 69, 3) := by decide +kernel
theorem dX7_lasts_14 : decode cX7_lasts 14 = .ok (.iload_n 1, 1) := by decide +kernel
theorem dX7_lasts_15 : decode cX7_lasts 15 = .ok (.iaload, 1) := by decide +kernel
theorem dX7_lasts_16 : decode cX7_lasts 16 = .ok (.istore 5, 2) := by decide +kernel
theorem dX7_lasts_18 : decode cX7_lasts 18 = .ok (.iconst 0, 1) := by decide +kernel
theorem dX7_lasts_19 : decode cX7_lasts 19 = .ok (.istore 6, 2) := by decide +kernel
theorem dX7_lasts_21 : decode cX7_lasts 21 = .ok (.iload 6, 2) := by decide +kernel
theorem dX7_lasts_23 : decode cX7_lasts 23 = .ok (.iload_n 2, 1) := by decide +kernel
theorem dX7_lasts_24 : decode cX7_lasts 24 = .ok (.if_icmp .ge 81, 3) := by decide +kernel
theorem dX7_lasts_27 : decode cX7_lasts 27 = .ok (.aload_n 0, 1) := by decide +kernel
theorem dX7_lasts_28 : decode cX7_lasts 28 = .ok (.getfield 78, 3) := by decide +kernel
theorem dX7_lasts_31 : decode cX7_lasts 31 = .ok (.iload 6, 2) := by decide +kernel
theorem dX7_lasts_33 : decode cX7_lasts 33 = .ok (.iaload, 1) := by decide +kernel
theorem dX7_lasts_34 : decode cX7_lasts 34 = .ok (.istore 7, 2) := by decide +kernel
theorem dX7_lasts_36 : decode cX7_lasts 36 = .ok (.iload 4, 2) := by decide +kernel
theorem dX7_lasts_38 : decode cX7_lasts 38 = .ok (.iconst (-1), 1) := by decide +kernel
theorem dX7_lasts_39 : decode cX7_lasts 39 = .ok (.if_icmp .eq 14, 3) := by decide +kernel
theorem dX7_lasts_42 : decode cX7_lasts 42 = .ok (.iload 4, 2) := by decide +kernel
theorem dX7_lasts_44 : decode cX7_lasts 44 = .ok (.aload_n 0, 1) := by decide +kernel
theorem dX7_lasts_45 : decode cX7_lasts 45 = .ok (.iload 7, 2) := by decide +kernel
theorem dX7_lasts_47 : decode cX7_lasts 47 = .ok (.invokevirtual 130, 3) := by decide +kernel
theorem dX7_lasts_50 : decode cX7_lasts 50 = .ok (.if_icmp .lt 26, 3) := by decide +kernel
theorem dX7_lasts_53 : decode cX7_lasts 53 = .ok (.iload 5, 2) := by decide +kernel
theorem dX7_lasts_55 : decode cX7_lasts 55 = .ok (.iconst (-1), 1) := by decide +kernel
theorem dX7_lasts_56 : decode cX7_lasts 56 = .ok (.if_icmp .eq 26, 3) := by decide +kernel
theorem dX7_lasts_59 : decode cX7_lasts 59 = .ok (.iload 5, 2) := by decide +kernel
theorem dX7_lasts_61 : decode cX7_lasts 61 = .ok (.aload_n 0, 1) := by decide +kernel
theorem dX7_lasts_62 : decode cX7_lasts 62 = .ok (.getfield 23, 3) := by decide +kernel
theorem dX7_lasts_65 : decode cX7_lasts 65 = .ok (.aload_n 0, 1) := by decide +kernel
theorem dX7_lasts_66 : decode cX7_lasts 66 = .ok (.getfield 38, 3) := by decide +kernel
theorem dX7_lasts_69 : decode cX7_lasts 69 = .ok (.iload 7, 2) := by decide +kernel
theorem dX7_lasts_71 : decode cX7_lasts 71 = .ok (.iaload, 1) := by decide +kernel
theorem dX7_lasts_72 : decode cX7_lasts 72 = .ok (.iaload, 1) := by decide +kernel
theorem dX7_lasts_73 : decode cX7_lasts 73 = .ok (.if_icmp .eq 9, 3) := by decide +kernel
theorem dX7_lasts_76 : decode cX7_lasts 76 = .ok (.iinc 3 3, 3) := by decide +kernel
theorem dX7_lasts_79 : decode cX7_lasts 79 = .ok (.iconst (-1), 1) := by decide +kernel
theorem dX7_lasts_80 : decode cX7_lasts 80 = .ok (.istore 5, 2) := by decide +kernel
theorem dX7_lasts_82 : decode cX7_lasts 82 = .ok (.aload_n 0, 1) := by decide +kernel
theorem dX7_lasts_83 : decode cX7_lasts 83 = .ok (.iload 7, 2) := by decide +kernel
theorem dX7_lasts_85 : decode cX7_lasts 85 = .ok (.invokevirtual 130, 3) := by decide +kernel
theorem dX7_lasts_88 : decode cX7_lasts 88 = .ok (.istore 4, 2) := by decide +kernel
theorem dX7_lasts_90 : decode cX7_lasts 90 = .ok (.iload_n 3, 1) := by decide +kernel
theorem dX7_lasts_91 : decode cX7_lasts 91 = .ok (.aload_n 0, 1) := by decide +kernel
theorem dX7_lasts_92 : decode cX7_lasts 92 = .ok (.iload 7, 2) := by decide +kernel
theorem dX7_lasts_94 : decode cX7_lasts 94 = .ok (.invokevirtual 127, 3) := by decide +kernel
theorem dX7_lasts_97 : decode cX7_lasts 97 = .ok (.iadd, 1) := by decide +kernel
theorem dX7_lasts_98 : decode cX7_lasts 98 = .ok (.istore_n 3, 1) := by decide +kernel
theorem dX7_lasts_99 : decode cX7_lasts 99 = .ok (.iinc 6 1, 3) := by decide +kernel
theorem dX7_lasts_102 : decode cX7_lasts 102 = .ok (.goto (-81), 3) := by decide +kernel
theorem dX7_lasts_105 : decode cX7_lasts 105 = .ok (.iload_n 3, 1) := by decide +kernel
theorem dX7_lasts_106 : decode cX7_lasts 106 = .ok (.ireturn, 1) := by decide +kernel
set_option maxRecDepth 20000 in
theorem ggX7_isNext_X7_swap : GoodIn wsX7_isNext wsX7_swap := goodIn_ca (goodIn_r _ [6, 1, 7, 8, 9, 10, 11, 12, 13, 14, 15, 16, 17, 18, 19, 20, 21, 22, 23, 24, 25, 26, 27, 28, 29, 30, 31, 32, 33, 34, 35] (by decide +kernel) (by decide +kernel)) (goodIn_sub (fun _ h => List.mem_cons_of_mem _ (List.mem_append_right _ h)) (by decide +kernel))
set_option maxRecDepth 20000 in
theorem gX7_isNext_X7_swap : GoodIn wsX7_isNext (wsV RX7 167 RX7 yX7_swap wsX7_swap) := goodIn_app (goodIn_of _ (by decide +kernel)) ggX7_isNext_X7_swap
theorem dX7_isNext_0 : decode cX7_isNext 0 = .ok (.iload_n 1, 1) := by decide +kernel
theorem dX7_isNext_1 : decode cX7_isNext 1 = .ok (.iconst 2, 1) := by decide +kernel
theorem dX7_isNext_2 : decode cX7_isNext 2 = .ok (.isub, 1) := by decide +kernel
theorem dX7_isNext_3 : decode cX7_isNext 3 = .ok (.istore_n 2, 1) := by decide +kernel
theorem dX7_isNext_4 : decode cX7_isNext 4 = .ok (.iload_n 2, 1) := by decide +kernel
theorem dX7_isNext_5 : decode cX7_isNext 5 = .ok (.ifCond .lt 26, 3) := by decide +kernel
theorem dX7_isNext_8 : decode cX7_isNext 8 = .ok (.aload_n 0, 1) := by decide +kernel
theorem dX7_isNext_9 : decode cX7_isNext 9 = .ok (.getfield 78, 3) := by decide +kernel
theorem dX7_isNext_12 : decode cX7_isNext 12 = .ok (.iload_n 2, 1) := by decide +kernel
theorem dX7_isNext_13 : decode cX7_isNext 13 = .ok (.iaload, 1) := by decide +kernel
theorem dX7_isNext_14 : decode cX7_isNext 14 = .ok (.aload_n 0, 1) := by decide +kernel
theorem dX7_isNext_15 : decode cX7_isNext 15 = .ok (.getfield 78, 3) := by decide +kernel
theorem dX7_isNext_18 : decode cX7_isNext 18 = .ok (.iload_n 2, 1) := by decide +kernel
theorem dX7_isNext_19 : decode cX7_isNext 19 = .ok (.iconst 1, 1) := by decide +kernel
theorem dX7_isNext_20 : decode cX7_isNext 20 = .ok (.iadd, 1) := by decide +kernel
theorem dX7_isNext_21 : decode cX7_isNext 21 = .ok (.iaload, 1) := by decide +kernel
theorem dX7_isNext_22 : decode cX7_isNext 22 = .ok (.if_icmp .le 9, 3) := by decide +kernel
theorem dX7_isNext_25 : decode cX7_isNext 25 = .ok (.iinc 2 (-1), 3) := by decide +kernel
theorem dX7_isNext_28 : decode cX7_isNext 28 = .ok (.goto (-24), 3) := by decide +kernel
theorem dX7_isNext_31 : decode cX7_isNext 31 = .ok (.iload_n 2, 1) := by decide +kernel
theorem dX7_isNext_32 : decode cX7_isNext 32 = .ok (.ifCond .ge 5, 3) := by decide +kernel
theorem dX7_isNext_35 : decode cX7_isNext 35 = .ok (.iconst 0, 1) := by decide +kernel
theorem dX7_isNext_36 : decode cX7_isNext 36 = .ok (.ireturn, 1) := by decide +kernel
theorem dX7_isNext_37 : decode cX7_isNext 37 = .ok (.iload_n 1, 1) := by decide +kernel
theorem dX7_isNext_38 : decode cX7_isNext 38 = .ok (.iconst 1, 1) := by decide +kernel
theorem dX7_isNext_39 : decode cX7_isNext 39 = .ok (.isub, 1) := by decide +kernel
theorem dX7_isNext_40 : decode cX7_isNext 40 = .ok (.istore_n 3, 1) := by decide +kernel
theorem dX7_isNext_41 : decode cX7_isNext 41 = .ok (.aload_n 0, 1) := by decide +kernel
theorem dX7_isNext_42 : decode cX7_isNext 42 = .ok (.getfield 78, 3) := by decide +kernel
theorem dX7_isNext_45 : decode cX7_isNext 45 = .ok (.iload_n 3, 1) := by decide +kernel
theorem dX7_isNext_46 : decode cX7_isNext 46 = .ok (.iaload, 1) := by decide +kernel
theorem dX7_isNext_47 : decode cX7_isNext 47 = .ok (.aload_n 0, 1) := by decide +kernel
theorem dX7_isNext_48 : decode cX7_isNext 48 = .ok (.getfield 78, 3) := by decide +kernel
theorem dX7_isNext_51 : decode cX7_isNext 51 = .ok (.iload_n 2, 1) := by decide +kernel
theorem dX7_isNext_52 : decode cX7_isNext 52 = .ok (.iaload, 1) := by decide +kernel
theorem dX7_isNext_53 : decode cX7_isNext 53 = .ok (.if_icmp .ge 9, 3) := by decide +kernel
theorem dX7_isNext_56 : decode cX7_isNext 56 = .ok (.iinc 3 (-1), 3) := by decide +kernel
theorem dX7_isNext_59 : decode cX7_isNext 59 = .ok (.goto (-18), 3) := by decide +kernel
theorem dX7_isNext_62 : decode cX7_isNext 62 = .ok (.aload_n 0, 1) := by decide +kernel
theorem dX7_isNext_63 : decode cX7_isNext 63 = .ok (.iload_n 2, 1) := by decide +kernel
theorem dX7_isNext_64 : decode cX7_isNext 64 = .ok (.iload_n 3, 1) := by decide +kernel
theorem dX7_isNext_65 : decode cX7_isNext 65 = .ok (.invokevirtual 167, 3) := by decide +kernel
theorem dX7_isNext_68 : decode cX7_isNext 68 = .ok (.iload_n 2, 1) := by decide +kernel
theorem dX7_isNext_69 : decode cX7_isNext 69 = .ok (.iconst 1, 1) := by decide +kernel
theorem dX7_isNext_70 : decode cX7_isNext 70 = .ok (.iadd, 1) := by decide +kernel
theorem dX7_isNext_71 : decode cX7_isNext 71 = .ok (.istore 4, 2) := by decide +kernel
theorem dX7_isNext_73 : decode cX7_isNext 73 = .ok (.iload_n 1, 1) := by decide +kernel
theorem dX7_isNext_74 : decode cX7_isNext 74 = .ok (.iconst 1, 1) := by decide +kernel
theorem dX7_isNext_75 : decode cX7_isNext 75 = .ok (.isub, 1) := by decide +kernel
theorem dX7_isNext_76 : decode cX7_isNext 76 = .ok (.istore 5, 2) := by decide +kernel
theorem dX7_isNext_78 : decode cX7_isNext 78 = .ok (.iload 4, 2) := by decide +kernel
theorem dX7_isNext_80 : decode cX7_isNext 80 = .ok (.iload 5, 2) := by decide +kernel
theorem dX7_isNext_82 : decode cX7_isNext 82 = .ok (.if_icmp .ge 20, 3) := by decide +kernel
theorem dX7_isNext_85 : decode cX7_isNext 85 = .ok (.aload_n 0, 1) := by decide +kernel
theorem dX7_isNext_86 : decode cX7_isNext 86 = .ok (.iload 4, 2) := by decide +kernel
theorem dX7_isNext_88 : decode cX7_isNext 88 = .ok (.iload 5, 2) := by decide +kernel
theorem dX7_isNext_90 : decode cX7_isNext 90 = .ok (.invokevirtual 167, 3) := by decide +kernel
theorem dX7_isNext_93 : decode cX7_isNext 93 = .ok (.iinc 4 1, 3) := by decide +kernel
theorem dX7_isNext_96 : decode cX7_isNext 96 = .ok (.iinc 5 (-1), 3) := by decide +kernel
theorem dX7_isNext_99 : decode cX7_isNext 99 = .ok (.goto (-21), 3) := by decide +kernel
theorem dX7_isNext_102 : decode cX7_isNext 102 = .ok (.iconst 1, 1) := by decide +kernel
theorem dX7_isNext_103 : decode cX7_isNext 103 = .ok (.ireturn, 1) := by decide +kernel
theorem dX7_swap_0 : decode cX7_swap 0 = .ok (.aload_n 0, 1) := by decide +kernel
theorem dX7_swap_1 : decode cX7_swap 1 = .ok (.getfield 78, 3) := by decide +kernel
theorem dX7_swap_4 : decode cX7_swap 4 = .ok (.iload_n 1, 1) := by decide +kernel
theorem dX7_swap_5 : decode cX7_swap 5 = .ok (.iaload, 1) := by decide +kernel
theorem dX7_swap_6 : decode cX7_swap 6 = .ok (.istore_n 3, 1) := by decide +kernel
theorem dX7_swap_7 : decode cX7_swap 7 = .ok (.aload_n 0, 1) := by decide +kernel
theorem dX7_swap_8 : decode cX7_swap 8 = .ok (.getfield 78, 3) := by decide +kernel
theorem dX7_swap_11 : decode cX7_swap 11 = .ok (.iload_n 1, 1) := by decide +kernel
theorem dX7_swap_12 : decode cX7_swap 12 = .ok (.aload_n 0, 1) := by decide +kernel
theorem dX7_swap_13 : decode cX7_swap 13 = .ok (.getfield 78, 3) := by decide +kernel
theorem dX7_swap_16 : decode cX7_swap 16 = .ok (.iload_n 2, 1) := by decide +kernel
theorem dX7_swap_17 : decode cX7_swap 17 = .ok (.iaload, 1) := by decide +kernel
theorem dX7_swap_18 : decode cX7_swap 18 = .ok (.iastore, 1) := by decide +kernel
theorem dX7_swap_19 : decode cX7_swap 19 = .ok (.aload_n 0, 1) := by decide +kernel
theorem dX7_swap_20 : decode cX7_swap 20 = .ok (.getfield 78, 3) := by decide +kernel
theorem dX7_swap_23 : decode cX7_swap 23 = .ok (.iload_n 2, 1) := by decide +kernel
theorem dX7_swap_24 : decode cX7_swap 24 = .ok (.iload_n 3, 1) := by decide +kernel
theorem dX7_swap_25 : decode cX7_swap 25 = .ok (.iastore, 1) := by decide +kernel
theorem dX7_swap_26 : decode cX7_swap 26 = .ok (.return_, 1) := by decide +kernel
set_option maxRecDepth 20000 in
theorem ggX7_least_X7_inPlan : GoodIn wsX7_least wsX7_inPlan := goodIn_ca (goodIn_r _ [7, 8, 9, 41, 42, 43, 44, 45, 46, 47, 48, 49, 50, 51, 52, 53, 54, 55, 56, 57, 58, 59, 60, 61, 62, 63, 64, 65, 66, 67, 68, 69] (by decide +kernel) (by decide +kernel)) (goodIn_sub (fun _ h => List.mem_cons_of_mem _ (List.mem_append_right _ h)) (by decide +kernel))
set_option maxRecDepth 20000 in
theorem gX7_least_X7_inPlan : GoodIn wsX7_least (wsV RX7 161 RX7 yX7_inPlan wsX7_inPlan) := goodIn_app (goodIn_of _ (by decide +kernel)) ggX7_least_X7_inPlan
set_option maxRecDepth 20000 in
theorem ggX7_least_X7_lotAt : GoodIn wsX7_least wsX7_lotAt := goodIn_ca (goodIn_r _ [13, 8, 9, 41, 42, 43, 44, 45, 46, 47, 48, 49, 50, 51, 52, 53, 54, 55, 56, 57, 58, 59, 60, 61, 62, 63, 64, 65, 66, 67, 68, 69] (by decide +kernel) (by decide +kernel)) (goodIn_sub (fun _ h => List.mem_cons_of_mem _ (List.mem_append_right _ h)) (by decide +kernel))
set_option maxRecDepth 20000 in
theorem gX7_least_X7_lotAt : GoodIn wsX7_least (wsV RX7 164 RX7 yX7_lotAt wsX7_lotAt) := goodIn_app (goodIn_of _ (by decide +kernel)) ggX7_least_X7_lotAt
set_option maxRecDepth 20000 in
theorem ggX7_least_X7_lasts : GoodIn wsX7_least wsX7_lasts := goodIn_ca (goodIn_r _ [17, 18, 19, 1, 20, 21, 22, 23, 24, 6, 25, 26, 27, 28, 29, 30, 31, 32, 41, 42, 43, 44, 45, 46, 47, 48, 49, 50, 51, 52, 53, 54, 55, 56, 57, 58, 59, 60, 61, 62, 63, 64, 65, 66, 67, 68, 69] (by decide +kernel) (by decide +kernel)) (goodIn_sub (fun _ h => List.mem_cons_of_mem _ (List.mem_append_right _ h)) (by decide +kernel))
set_option maxRecDepth 20000 in
theorem gX7_least_X7_lasts : GoodIn wsX7_least (wsV RX7 171 RX7 yX7_lasts wsX7_lasts) := goodIn_app (goodIn_of _ (by decide +kernel)) ggX7_least_X7_lasts
set_option maxRecDepth 20000 in
theorem ggX7_least_X7_isNext : GoodIn wsX7_least wsX7_isNext := goodIn_ca (goodIn_r _ [36, 1, 37, 38, 39, 6, 40, 41, 42, 43, 44, 45, 46, 47, 48, 49, 50, 51, 52, 53, 54, 55, 56, 57, 58, 59, 60, 61, 62, 63, 64, 65, 66, 67, 68, 69] (by decide +kernel) (by decide +kernel)) (goodIn_sub (fun _ h => List.mem_cons_of_mem _ (List.mem_append_right _ h)) (by decide +kernel))
set_option maxRecDepth 20000 in
theorem gX7_least_X7_isNext : GoodIn wsX7_least (wsV RX7 174 RX7 yX7_isNext wsX7_isNext) := goodIn_app (goodIn_of _ (by decide +kernel)) ggX7_least_X7_isNext
theorem dX7_least_0 : decode cX7_least 0 = .ok (.aload_n 0, 1) := by decide +kernel
theorem dX7_least_1 : decode cX7_least 1 = .ok (.iload_n 1, 1) := by decide +kernel
theorem dX7_least_2 : decode cX7_least 2 = .ok (.invokevirtual 161, 3) := by decide +kernel
theorem dX7_least_5 : decode cX7_least 5 = .ok (.istore_n 2, 1) := by decide +kernel
theorem dX7_least_6 : decode cX7_least 6 = .ok (.iconst 0, 1) := by decide +kernel
theorem dX7_least_7 : decode cX7_least 7 = .ok (.istore_n 3, 1) := by decide +kernel
theorem dX7_least_8 : decode cX7_least 8 = .ok (.iload_n 3, 1) := by decide +kernel
theorem dX7_least_9 : decode cX7_least 9 = .ok (.iload_n 2, 1) := by decide +kernel
theorem dX7_least_10 : decode cX7_least 10 = .ok (.if_icmp .ge 21, 3) := by decide +kernel
theorem dX7_least_13 : decode cX7_least 13 = .ok (.aload_n 0, 1) := by decide +kernel
theorem dX7_least_14 : decode cX7_least 14 = .ok (.getfield 78, 3) := by decide +kernel
theorem dX7_least_17 : decode cX7_least 17 = .ok (.iload_n 3, 1) := by decide +kernel
theorem dX7_least_18 : decode cX7_least 18 = .ok (.aload_n 0, 1) := by decide +kernel
theorem dX7_least_19 : decode cX7_least 19 = .ok (.iload_n 1, 1) := by decide +kernel
theorem dX7_least_20 : decode cX7_least 20 = .ok (.iload_n 3, 1) := by decide +kernel
theorem dX7_least_21 : decode cX7_least 21 = .ok (.invokevirtual 164, 3) := by decide +kernel
theorem dX7_least_24 : decode cX7_least 24 = .ok (.iastore, 1) := by decide +kernel
theorem dX7_least_25 : decode cX7_least 25 = .ok (.iinc 3 1, 3) := by decide +kernel
theorem dX7_least_28 : decode cX7_least 28 = .ok (.goto (-20), 3) := by decide +kernel
theorem dX7_least_31 : decode cX7_least 31 = .ok (.aload_n 0, 1) := by decide +kernel
theorem dX7_least_32 : decode cX7_least 32 = .ok (.iload_n 1, 1) := by decide +kernel
theorem dX7_least_33 : decode cX7_least 33 = .ok (.iload_n 2, 1) := by decide +kernel
theorem dX7_least_34 : decode cX7_least 34 = .ok (.invokevirtual 171, 3) := by decide +kernel
theorem dX7_least_37 : decode cX7_least 37 = .ok (.istore_n 3, 1) := by decide +kernel
theorem dX7_least_38 : decode cX7_least 38 = .ok (.aload_n 0, 1) := by decide +kernel
theorem dX7_least_39 : decode cX7_least 39 = .ok (.getfield 81, 3) := by decide +kernel
theorem dX7_least_42 : decode cX7_least 42 = .ok (.iconst 0, 1) := by decide +kernel
theorem dX7_least_43 : decode cX7_least 43 = .ok (.iload_n 2, 1) := by decide +kernel
theorem dX7_least_44 : decode cX7_least 44 = .ok (.ifCond .le 12, 3) := by decide +kernel
theorem dX7_least_47 : decode cX7_least 47 = .ok (.aload_n 0, 1) := by decide +kernel
theorem dX7_least_48 : decode cX7_least 48 = .ok (.getfield 78, 3) := by decide +kernel
theorem dX7_least_51 : decode cX7_least 51 = .ok (.iconst 0, 1) := by decide +kernel
theorem dX7_least_52 : decode cX7_least 52 = .ok (.iaload, 1) := by decide +kernel
theorem dX7_least_53 : decode cX7_least 53 = .ok (.goto 4, 3) := by decide +kernel
theorem dX7_least_56 : decode cX7_least 56 = .ok (.iconst (-1), 1) := by decide +kernel
theorem dX7_least_57 : decode cX7_least 57 = .ok (.iastore, 1) := by decide +kernel
theorem dX7_least_58 : decode cX7_least 58 = .ok (.aload_n 0, 1) := by decide +kernel
theorem dX7_least_59 : decode cX7_least 59 = .ok (.iload_n 2, 1) := by decide +kernel
theorem dX7_least_60 : decode cX7_least 60 = .ok (.invokevirtual 174, 3) := by decide +kernel
theorem dX7_least_63 : decode cX7_least 63 = .ok (.ifCond .eq 38, 3) := by decide +kernel
theorem dX7_least_66 : decode cX7_least 66 = .ok (.aload_n 0, 1) := by decide +kernel
theorem dX7_least_67 : decode cX7_least 67 = .ok (.iload_n 1, 1) := by decide +kernel
theorem dX7_least_68 : decode cX7_least 68 = .ok (.iload_n 2, 1) := by decide +kernel
theorem dX7_least_69 : decode cX7_least 69 = .ok (.invokevirtual 171, 3) := by decide +kernel
theorem dX7_least_72 : decode cX7_least 72 = .ok (.istore 4, 2) := by decide +kernel
theorem dX7_least_74 : decode cX7_least 74 = .ok (.iload 4, 2) := by decide +kernel
theorem dX7_least_76 : decode cX7_least 76 = .ok (.iload_n 3, 1) := by decide +kernel
theorem dX7_least_77 : decode cX7_least 77 = .ok (.if_icmp .lt 6, 3) := by decide +kernel
theorem dX7_least_80 : decode cX7_least 80 = .ok (.goto (-22), 3) := by decide +kernel
theorem dX7_least_83 : decode cX7_least 83 = .ok (.iload 4, 2) := by decide +kernel
theorem dX7_least_85 : decode cX7_least 85 = .ok (.istore_n 3, 1) := by decide +kernel
theorem dX7_least_86 : decode cX7_least 86 = .ok (.aload_n 0, 1) := by decide +kernel
theorem dX7_least_87 : decode cX7_least 87 = .ok (.getfield 81, 3) := by decide +kernel
theorem dX7_least_90 : decode cX7_least 90 = .ok (.iconst 0, 1) := by decide +kernel
theorem dX7_least_91 : decode cX7_least 91 = .ok (.aload_n 0, 1) := by decide +kernel
theorem dX7_least_92 : decode cX7_least 92 = .ok (.getfield 78, 3) := by decide +kernel
theorem dX7_least_95 : decode cX7_least 95 = .ok (.iconst 0, 1) := by decide +kernel
theorem dX7_least_96 : decode cX7_least 96 = .ok (.iaload, 1) := by decide +kernel
theorem dX7_least_97 : decode cX7_least 97 = .ok (.iastore, 1) := by decide +kernel
theorem dX7_least_98 : decode cX7_least 98 = .ok (.goto (-40), 3) := by decide +kernel
theorem dX7_least_101 : decode cX7_least 101 = .ok (.iload_n 3, 1) := by decide +kernel
theorem dX7_least_102 : decode cX7_least 102 = .ok (.ireturn, 1) := by decide +kernel
set_option maxRecDepth 20000 in
theorem ggX7_leastHours_X7_noVat : GoodIn wsX7_leastHours wsX7_noVat := goodIn_r _ [5, 6, 7, 8, 9, 4, 10, 54, 55, 56, 57, 58, 59, 60, 61, 62, 63, 64, 65, 66, 67, 68, 69, 70, 71, 72, 73, 74, 75, 76, 77, 78, 79, 80, 81, 82] (by decide +kernel) (by decide +kernel)
set_option maxRecDepth 20000 in
theorem gX7_leastHours_X7_noVat : GoodIn wsX7_leastHours (wsV RX7 133 RX7 yX7_noVat wsX7_noVat) := goodIn_app (goodIn_of _ (by decide +kernel)) ggX7_leastHours_X7_noVat
set_option maxRecDepth 20000 in
theorem ggX7_leastHours_X7_least : GoodIn wsX7_leastHours wsX7_least := goodIn_ca (goodIn_r _ [14, 15, 16, 17, 18, 19, 4, 20, 21, 22, 23, 24, 25, 26, 27, 28, 29, 30, 31, 32, 33, 34, 35, 36, 37, 38, 39, 40, 41, 42, 43, 44, 45, 46, 47, 48, 49, 50, 51, 52, 53, 54, 55, 56, 57, 58, 59, 60, 61, 62, 63, 64, 65, 66, 67, 68, 69, 70, 71, 72, 73, 74, 75, 76, 77, 78, 79, 80, 81, 82] (by decide +kernel) (by decide +kernel)) (goodIn_sub (fun _ h => List.mem_cons_of_mem _ (List.mem_append_right _ h)) (by decide +kernel))
set_option maxRecDepth 20000 in
theorem gX7_leastHours_X7_least : GoodIn wsX7_leastHours (wsV RX7 177 RX7 yX7_least wsX7_least) := goodIn_app (goodIn_of _ (by decide +kernel)) ggX7_leastHours_X7_least
theorem dX7_leastHours_0 : decode cX7_leastHours 0 = .ok (.aload_n 0, 1) := by decide +kernel
theorem dX7_leastHours_1 : decode cX7_leastHours 1 = .ok (.iload_n 1, 1) := by decide +kernel
theorem dX7_leastHours_2 : decode cX7_leastHours 2 = .ok (.invokevirtual 133, 3) := by decide +kernel
theorem dX7_leastHours_5 : decode cX7_leastHours 5 = .ok (.ifCond .eq 7, 3) := by decide +kernel
theorem dX7_leastHours_8 : decode cX7_leastHours 8 = .ok (.iconst 0, 1) := by decide +kernel
theorem dX7_leastHours_9 : decode cX7_leastHours 9 = .ok (.goto 8, 3) := by decide +kernel
theorem dX7_leastHours_12 : decode cX7_leastHours 12 = .ok (.aload_n 0, 1) := by decide +kernel
theorem dX7_leastHours_13 : decode cX7_leastHours 13 = .ok (.iload_n 1, 1) := by decide +kernel
theorem dX7_leastHours_14 : decode cX7_leastHours 14 = .ok (.invokevirtual 177, 3) := by decide +kernel
theorem dX7_leastHours_17 : decode cX7_leastHours 17 = .ok (.ireturn, 1) := by decide +kernel
set_option maxRecDepth 20000 in
theorem ggX7_leastByAll_X7_leastHours : GoodIn wsX7_leastByAll wsX7_leastHours := goodIn_ca (goodIn_r _ [5, 6, 7, 8, 4, 9, 10, 11, 12, 13, 14, 15, 16, 17, 18, 19, 20, 21, 22, 23, 24, 25, 26, 27, 28, 29, 30, 31, 32, 33, 34, 35, 36, 37, 38, 39, 40, 41, 42, 43, 44, 45, 46, 47, 48, 49, 50, 51, 52, 53, 54, 55, 56, 57, 58, 59, 60, 61, 62, 63, 64, 65, 66, 67, 68, 69, 70, 71, 72, 73, 74, 75, 76, 77, 78, 79, 80, 81, 82, 83, 84, 85, 86] (by decide +kernel) (by decide +kernel)) (goodIn_sub (fun _ h => List.mem_cons_of_mem _ (List.mem_append_right _ h)) (by decide +kernel))
set_option maxRecDepth 20000 in
theorem gX7_leastByAll_X7_leastHours : GoodIn wsX7_leastByAll (wsV RX7 180 RX7 yX7_leastHours wsX7_leastHours) := goodIn_app (goodIn_of _ (by decide +kernel)) ggX7_leastByAll_X7_leastHours
theorem dX7_leastByAll_0 : decode cX7_leastByAll 0 = .ok (.aload_n 0, 1) := by decide +kernel
theorem dX7_leastByAll_1 : decode cX7_leastByAll 1 = .ok (.iload_n 1, 1) := by decide +kernel
theorem dX7_leastByAll_2 : decode cX7_leastByAll 2 = .ok (.invokevirtual 180, 3) := by decide +kernel
theorem dX7_leastByAll_5 : decode cX7_leastByAll 5 = .ok (.ireturn, 1) := by decide +kernel
set_option maxRecDepth 20000 in
theorem ggX7_firstOf_X7_noVat : GoodIn wsX7_firstOf wsX7_noVat := goodIn_r _ [6, 7, 8, 9, 10, 5, 11, 58, 59, 60, 61, 62, 63, 64, 65, 66, 67, 68, 69, 70, 71, 72, 73, 74, 75, 76, 77, 78, 79, 80, 81, 82, 83, 84, 85, 86] (by decide +kernel) (by decide +kernel)
set_option maxRecDepth 20000 in
theorem gX7_firstOf_X7_noVat : GoodIn wsX7_firstOf (wsV RX7 133 RX7 yX7_noVat wsX7_noVat) := goodIn_app (goodIn_of _ (by decide +kernel)) ggX7_firstOf_X7_noVat
set_option maxRecDepth 20000 in
theorem ggX7_firstOf_X7_inPlan : GoodIn wsX7_firstOf wsX7_inPlan := goodIn_ca (goodIn_r _ [15, 16, 17, 58, 59, 60, 61, 62, 63, 64, 65, 66, 67, 68, 69, 70, 71, 72, 73, 74, 75, 76, 77, 78, 79, 80, 81, 82, 83, 84, 85, 86] (by decide +kernel) (by decide +kernel)) (goodIn_sub (fun _ h => List.mem_cons_of_mem _ (List.mem_append_right _ h)) (by decide +kernel))
set_option maxRecDepth 20000 in
theorem gX7_firstOf_X7_inPlan : GoodIn wsX7_firstOf (wsV RX7 161 RX7 yX7_inPlan wsX7_inPlan) := goodIn_app (goodIn_of _ (by decide +kernel)) ggX7_firstOf_X7_inPlan
set_option maxRecDepth 20000 in
theorem ggX7_firstOf_X7_refuse : GoodIn wsX7_firstOf wsX7_refuse := goodIn_r _ [21, 8, 58, 59, 60, 61, 62, 63, 64, 65, 66, 67, 68, 69, 70, 71, 72, 73, 74, 75, 76, 77, 78, 79, 80, 81, 82, 83, 84, 85, 86] (by decide +kernel) (by decide +kernel)
set_option maxRecDepth 20000 in
theorem gX7_firstOf_X7_refuse : GoodIn wsX7_firstOf (wsV RX7 104 RX7 yX7_refuse wsX7_refuse) := goodIn_app (goodIn_of _ (by decide +kernel)) ggX7_firstOf_X7_refuse
set_option maxRecDepth 20000 in
theorem ggX7_firstOf_X7_least : GoodIn wsX7_firstOf wsX7_least := goodIn_ca (goodIn_r _ [25, 26, 1, 12, 13, 14, 5, 15, 16, 17, 27, 28, 29, 30, 31, 32, 33, 34, 35, 36, 37, 38, 39, 40, 41, 42, 43, 44, 45, 46, 47, 48, 49, 50, 51, 52, 53, 54, 55, 56, 57, 58, 59, 60, 61, 62, 63, 64, 65, 66, 67, 68, 69, 70, 71, 72, 73, 74, 75, 76, 77, 78, 79, 80, 81, 82, 83, 84, 85, 86] (by decide +kernel) (by decide +kernel)) (goodIn_sub (fun _ h => List.mem_cons_of_mem _ (List.mem_append_right _ h)) (by decide +kernel))
set_option maxRecDepth 20000 in
theorem gX7_firstOf_X7_least : GoodIn wsX7_firstOf (wsV RX7 177 RX7 yX7_least wsX7_least) := goodIn_app (goodIn_of _ (by decide +kernel)) ggX7_firstOf_X7_least
theorem dX7_firstOf_0 : decode cX7_firstOf 0 = .ok (.aload_n 0, 1) := by decide +kernel
theorem dX7_firstOf_1 : decode cX7_firstOf 1 = .ok (.iload_n 1, 1) := by decide +kernel
theorem dX7_firstOf_2 : decode cX7_firstOf 2 = .ok (.invokevirtual 133, 3) := by decide +kernel
theorem dX7_firstOf_5 : decode cX7_firstOf 5 = .ok (.ifCond .eq 5, 3) := by decide +kernel
theorem dX7_firstOf_8 : decode cX7_firstOf 8 = .ok (.iconst 0, 1) := by decide +kernel
theorem dX7_firstOf_9 : decode cX7_firstOf 9 = .ok (.ireturn, 1) := by decide +kernel
theorem dX7_firstOf_10 : decode cX7_firstOf 10 = .ok (.aload_n 0, 1) := by decide +kernel
theorem dX7_firstOf_11 : decode cX7_firstOf 11 = .ok (.iload_n 1, 1) := by decide +kernel
theorem dX7_firstOf_12 : decode cX7_firstOf 12 = .ok (.invokevirtual 161, 3) := by decide +kernel
theorem dX7_firstOf_15 : decode cX7_firstOf 15 = .ok (.ifCond .ne 9, 3) := by decide +kernel
theorem dX7_firstOf_18 : decode cX7_firstOf 18 = .ok (.aload_n 0, 1) := by decide +kernel
theorem dX7_firstOf_19 : decode cX7_firstOf 19 = .ok (.iconst 2, 1) := by decide +kernel
theorem dX7_firstOf_20 : decode cX7_firstOf 20 = .ok (.invokevirtual 104, 3) := by decide +kernel
theorem dX7_firstOf_23 : decode cX7_firstOf 23 = .ok (.ireturn, 1) := by decide +kernel
theorem dX7_firstOf_24 : decode cX7_firstOf 24 = .ok (.aload_n 0, 1) := by decide +kernel
theorem dX7_firstOf_25 : decode cX7_firstOf 25 = .ok (.iload_n 1, 1) := by decide +kernel
theorem dX7_firstOf_26 : decode cX7_firstOf 26 = .ok (.invokevirtual 177, 3) := by decide +kernel
theorem dX7_firstOf_29 : decode cX7_firstOf 29 = .ok (.istore_n 2, 1) := by decide +kernel
theorem dX7_firstOf_30 : decode cX7_firstOf 30 = .ok (.aload_n 0, 1) := by decide +kernel
theorem dX7_firstOf_31 : decode cX7_firstOf 31 = .ok (.getfield 81, 3) := by decide +kernel
theorem dX7_firstOf_34 : decode cX7_firstOf 34 = .ok (.iconst 0, 1) := by decide +kernel
theorem dX7_firstOf_35 : decode cX7_firstOf 35 = .ok (.iaload, 1) := by decide +kernel
theorem dX7_firstOf_36 : decode cX7_firstOf 36 = .ok (.ireturn, 1) := by decide +kernel
theorem dX7_recipes_0 : decode cX7_recipes 0 = .ok (.aload_n 0, 1) := by decide +kernel
theorem dX7_recipes_1 : decode cX7_recipes 1 = .ok (.getfield 108, 3) := by decide +kernel
theorem dX7_recipes_4 : decode cX7_recipes 4 = .ok (.ireturn, 1) := by decide +kernel
theorem dX7_lots_0 : decode cX7_lots 0 = .ok (.aload_n 0, 1) := by decide +kernel
theorem dX7_lots_1 : decode cX7_lots 1 = .ok (.getfield 92, 3) := by decide +kernel
theorem dX7_lots_4 : decode cX7_lots 4 = .ok (.ireturn, 1) := by decide +kernel
set_option maxRecDepth 20000 in
theorem ggX7_stateOf_X7_noLot : GoodIn wsX7_stateOf wsX7_noLot := goodIn_r _ [6, 7, 8, 9, 10, 5, 11, 12, 13, 14, 15, 16, 17, 18, 19, 20, 21, 22, 23, 24, 25, 26, 27, 28, 29, 30, 31, 32, 33, 34, 35, 36, 37, 38, 39, 40] (by decide +kernel) (by decide +kernel)
set_option maxRecDepth 20000 in
theorem gX7_stateOf_X7_noLot : GoodIn wsX7_stateOf (wsV RX7 120 RX7 yX7_noLot wsX7_noLot) := goodIn_app (goodIn_of _ (by decide +kernel)) ggX7_stateOf_X7_noLot
theorem dX7_stateOf_0 : decode cX7_stateOf 0 = .ok (.aload_n 0, 1) := by decide +kernel
theorem dX7_stateOf_1 : decode cX7_stateOf 1 = .ok (.iload_n 1, 1) := by decide +kernel
theorem dX7_stateOf_2 : decode cX7_stateOf 2 = .ok (.invokevirtual 120, 3) := by decide +kernel
theorem dX7_stateOf_5 : decode cX7_stateOf 5 = .ok (.ifCond .eq 8, 3) := by decide +kernel
theorem dX7_stateOf_8 : decode cX7_stateOf 8 = .ok (.bipush 119, 2) := by decide +kernel
theorem dX7_stateOf_10 : decode cX7_stateOf 10 = .ok (.goto 9, 3) := by decide +kernel
theorem dX7_stateOf_13 : decode cX7_stateOf 13 = .ok (.aload_n 0, 1) := by decide +kernel
theorem dX7_stateOf_14 : decode cX7_stateOf 14 = .ok (.getfield 59, 3) := by decide +kernel
theorem dX7_stateOf_17 : decode cX7_stateOf 17 = .ok (.iload_n 1, 1) := by decide +kernel
theorem dX7_stateOf_18 : decode cX7_stateOf 18 = .ok (.caload, 1) := by decide +kernel
theorem dX7_stateOf_19 : decode cX7_stateOf 19 = .ok (.ireturn, 1) := by decide +kernel
set_option maxRecDepth 20000 in
theorem ggX7_isWaiting_X7_noLot : GoodIn wsX7_isWaiting wsX7_noLot := goodIn_r _ [7, 8, 2, 9, 10, 6, 11, 12, 13, 14, 15, 16, 17, 18, 19, 20, 21, 22, 23, 24, 25, 26, 27, 28, 29, 30, 31, 32, 33, 34, 35, 36, 37, 38, 39, 40] (by decide +kernel) (by decide +kernel)
set_option maxRecDepth 20000 in
theorem gX7_isWaiting_X7_noLot : GoodIn wsX7_isWaiting (wsV RX7 120 RX7 yX7_noLot wsX7_noLot) := goodIn_app (goodIn_of _ (by decide +kernel)) ggX7_isWaiting_X7_noLot
theorem dX7_isWaiting_0 : decode cX7_isWaiting 0 = .ok (.aload_n 0, 1) := by decide +kernel
theorem dX7_isWaiting_1 : decode cX7_isWaiting 1 = .ok (.iload_n 1, 1) := by decide +kernel
theorem dX7_isWaiting_2 : decode cX7_isWaiting 2 = .ok (.invokevirtual 120, 3) := by decide +kernel
theorem dX7_isWaiting_5 : decode cX7_isWaiting 5 = .ok (.ifCond .eq 5, 3) := by decide +kernel
theorem dX7_isWaiting_8 : decode cX7_isWaiting 8 = .ok (.iconst 1, 1) := by decide +kernel
theorem dX7_isWaiting_9 : decode cX7_isWaiting 9 = .ok (.ireturn, 1) := by decide +kernel
theorem dX7_isWaiting_10 : decode cX7_isWaiting 10 = .ok (.aload_n 0, 1) := by decide +kernel
theorem dX7_isWaiting_11 : decode cX7_isWaiting 11 = .ok (.aload_n 0, 1) := by decide +kernel
theorem dX7_isWaiting_12 : decode cX7_isWaiting 12 = .ok (.getfield 59, 3) := by decide +kernel
theorem dX7_isWaiting_15 : decode cX7_isWaiting 15 = .ok (.iload_n 1, 1) := by decide +kernel
theorem dX7_isWaiting_16 : decode cX7_isWaiting 16 = .ok (.caload, 1) := by decide +kernel
theorem dX7_isWaiting_17 : decode cX7_isWaiting 17 = .ok (.bipush 119, 2) := by decide +kernel
theorem dX7_isWaiting_19 : decode cX7_isWaiting 19 = .ok (.if_icmp .ne 7, 3) := by decide +kernel
theorem dX7_isWaiting_22 : decode cX7_isWaiting 22 = .ok (.iconst 2, 1) := by decide +kernel
theorem dX7_isWaiting_23 : decode cX7_isWaiting 23 = .ok (.goto 4, 3) := by decide +kernel
theorem dX7_isWaiting_26 : decode cX7_isWaiting 26 = .ok (.iconst 0, 1) := by decide +kernel
theorem dX7_isWaiting_27 : decode cX7_isWaiting 27 = .ok (.putfield 84, 3) := by decide +kernel
theorem dX7_isWaiting_30 : decode cX7_isWaiting 30 = .ok (.aload_n 0, 1) := by decide +kernel
theorem dX7_isWaiting_31 : decode cX7_isWaiting 31 = .ok (.getfield 84, 3) := by decide +kernel
theorem dX7_isWaiting_34 : decode cX7_isWaiting 34 = .ok (.ifCond .eq 7, 3) := by decide +kernel
theorem dX7_isWaiting_37 : decode cX7_isWaiting 37 = .ok (.iconst 1, 1) := by decide +kernel
theorem dX7_isWaiting_38 : decode cX7_isWaiting 38 = .ok (.goto 4, 3) := by decide +kernel
theorem dX7_isWaiting_41 : decode cX7_isWaiting 41 = .ok (.iconst 0, 1) := by decide +kernel
theorem dX7_isWaiting_42 : decode cX7_isWaiting 42 = .ok (.ireturn, 1) := by decide +kernel
set_option maxRecDepth 20000 in
theorem ggX7_shadeOf_X7_isWaiting : GoodIn wsX7_shadeOf wsX7_isWaiting := goodIn_ca (goodIn_r _ [6, 7, 8, 9, 10, 11, 5, 12, 13, 14, 15, 16, 21, 22, 23, 24, 25, 26, 27, 28, 29, 30, 31, 32, 33, 34, 35, 36, 37, 38, 39, 40, 41, 42, 43, 44, 45, 46, 47, 48, 49] (by decide +kernel) (by decide +kernel)) (goodIn_sub (fun _ h => List.mem_cons_of_mem _ (List.mem_append_right _ h)) (by decide +kernel))
set_option maxRecDepth 20000 in
theorem gX7_shadeOf_X7_isWaiting : GoodIn wsX7_shadeOf (wsV RX7 183 RX7 yX7_isWaiting wsX7_isWaiting) := goodIn_app (goodIn_of _ (by decide +kernel)) ggX7_shadeOf_X7_isWaiting
set_option maxRecDepth 20000 in
theorem ggX7_shadeOf_X7_isIn : GoodIn wsX7_shadeOf wsX7_isIn := goodIn_r _ [16] (by decide +kernel) (by decide +kernel)
set_option maxRecDepth 20000 in
theorem gX7_shadeOf_X7_isIn : GoodIn wsX7_shadeOf (va_wsS RX7 88 yX7_isIn wsX7_isIn) := goodIn_app (goodIn_of _ (by decide +kernel)) ggX7_shadeOf_X7_isIn
set_option maxRecDepth 20000 in
theorem ggX7_shadeOf_X7_refuse : GoodIn wsX7_shadeOf wsX7_refuse := goodIn_r _ [20, 8, 21, 22, 23, 24, 25, 26, 27, 28, 29, 30, 31, 32, 33, 34, 35, 36, 37, 38, 39, 40, 41, 42, 43, 44, 45, 46, 47, 48, 49] (by decide +kernel) (by decide +kernel)
set_option maxRecDepth 20000 in
theorem gX7_shadeOf_X7_refuse : GoodIn wsX7_shadeOf (wsV RX7 104 RX7 yX7_refuse wsX7_refuse) := goodIn_app (goodIn_of _ (by decide +kernel)) ggX7_shadeOf_X7_refuse
theorem dX7_shadeOf_0 : decode cX7_shadeOf 0 = .ok (.aload_n 0, 1) := by decide +kernel
theorem dX7_shadeOf_1 : decode cX7_shadeOf 1 = .ok (.iload_n 1, 1) := by decide +kernel
theorem dX7_shadeOf_2 : decode cX7_shadeOf 2 = .ok (.invokevirtual 183, 3) := by decide +kernel
theorem dX7_shadeOf_5 : decode cX7_shadeOf 5 = .ok (.ifCond .eq 5, 3) := by decide +kernel
theorem dX7_shadeOf_8 : decode cX7_shadeOf 8 = .ok (.iconst 0, 1) := by decide +kernel
theorem dX7_shadeOf_9 : decode cX7_shadeOf 9 = .ok (.ireturn, 1) := by decide +kernel
theorem dX7_shadeOf_10 : decode cX7_shadeOf 10 = .ok (.iload_n 2, 1) := by decide +kernel
theorem dX7_shadeOf_11 : decode cX7_shadeOf 11 = .ok (.iconst 0, 1) := by decide +kernel
theorem dX7_shadeOf_12 : decode cX7_shadeOf 12 = .ok (.iconst 2, 1) := by decide +kernel
theorem dX7_shadeOf_13 : decode cX7_shadeOf 13 = .ok (.invokestatic 88, 3) := by decide +kernel
theorem dX7_shadeOf_16 : decode cX7_shadeOf 16 = .ok (.ifCond .ne 9, 3) := by decide +kernel
theorem dX7_shadeOf_19 : decode cX7_shadeOf 19 = .ok (.aload_n 0, 1) := by decide +kernel
theorem dX7_shadeOf_20 : decode cX7_shadeOf 20 = .ok (.iconst 3, 1) := by decide +kernel
theorem dX7_shadeOf_21 : decode cX7_shadeOf 21 = .ok (.invokevirtual 104, 3) := by decide +kernel
theorem dX7_shadeOf_24 : decode cX7_shadeOf 24 = .ok (.ireturn, 1) := by decide +kernel
theorem dX7_shadeOf_25 : decode cX7_shadeOf 25 = .ok (.aload_n 0, 1) := by decide +kernel
theorem dX7_shadeOf_26 : decode cX7_shadeOf 26 = .ok (.getfield 44, 3) := by decide +kernel
theorem dX7_shadeOf_29 : decode cX7_shadeOf 29 = .ok (.iconst 3, 1) := by decide +kernel
theorem dX7_shadeOf_30 : decode cX7_shadeOf 30 = .ok (.iload_n 1, 1) := by decide +kernel
theorem dX7_shadeOf_31 : decode cX7_shadeOf 31 = .ok (.imul, 1) := by decide +kernel
theorem dX7_shadeOf_32 : decode cX7_shadeOf 32 = .ok (.iload_n 2, 1) := by decide +kernel
theorem dX7_shadeOf_33 : decode cX7_shadeOf 33 = .ok (.iadd, 1) := by decide +kernel
theorem dX7_shadeOf_34 : decode cX7_shadeOf 34 = .ok (.iaload, 1) := by decide +kernel
theorem dX7_shadeOf_35 : decode cX7_shadeOf 35 = .ok (.ireturn, 1) := by decide +kernel
set_option maxRecDepth 20000 in
theorem ggX7_vatOf_X7_isWaiting : GoodIn wsX7_vatOf wsX7_isWaiting := goodIn_ca (goodIn_r _ [6, 7, 8, 9, 10, 11, 5, 12, 13, 14, 15, 16, 17, 18, 19, 20, 21, 22, 23, 24, 25, 26, 27, 28, 29, 30, 31, 32, 33, 34, 35, 36, 37, 38, 39, 40, 41, 42, 43, 44, 45] (by decide +kernel) (by decide +kernel)) (goodIn_sub (fun _ h => List.mem_cons_of_mem _ (List.mem_append_right _ h)) (by decide +kernel))
set_option maxRecDepth 20000 in
theorem gX7_vatOf_X7_isWaiting : GoodIn wsX7_vatOf (wsV RX7 183 RX7 yX7_isWaiting wsX7_isWaiting) := goodIn_app (goodIn_of _ (by decide +kernel)) ggX7_vatOf_X7_isWaiting
theorem dX7_vatOf_0 : decode cX7_vatOf 0 = .ok (.aload_n 0, 1) := by decide +kernel
theorem dX7_vatOf_1 : decode cX7_vatOf 1 = .ok (.iload_n 1, 1) := by decide +kernel
theorem dX7_vatOf_2 : decode cX7_vatOf 2 = .ok (.invokevirtual 183, 3) := by decide +kernel
theorem dX7_vatOf_5 : decode cX7_vatOf 5 = .ok (.ifCond .eq 7, 3) := by decide +kernel
theorem dX7_vatOf_8 : decode cX7_vatOf 8 = .ok (.iconst 0, 1) := by decide +kernel
theorem dX7_vatOf_9 : decode cX7_vatOf 9 = .ok (.goto 9, 3) := by decide +kernel
theorem dX7_vatOf_12 : decode cX7_vatOf 12 = .ok (.aload_n 0, 1) := by decide +kernel
theorem dX7_vatOf_13 : decode cX7_vatOf 13 = .ok (.getfield 47, 3) := by decide +kernel
theorem dX7_vatOf_16 : decode cX7_vatOf 16 = .ok (.iload_n 1, 1) := by decide +kernel
theorem dX7_vatOf_17 : decode cX7_vatOf 17 = .ok (.iaload, 1) := by decide +kernel
theorem dX7_vatOf_18 : decode cX7_vatOf 18 = .ok (.ireturn, 1) := by decide +kernel
set_option maxRecDepth 20000 in
theorem ggX7_offBy_X7_isWaiting : GoodIn wsX7_offBy wsX7_isWaiting := goodIn_ca (goodIn_r _ [5, 6, 7, 8, 9, 10, 4, 11, 12, 13, 14, 15, 27, 28, 29, 30, 31, 32, 33, 34, 35, 36, 37, 38, 39, 40, 41, 42, 43, 44, 45, 46, 47, 48, 49, 50, 51, 52, 53, 54, 55] (by decide +kernel) (by decide +kernel)) (goodIn_sub (fun _ h => List.mem_cons_of_mem _ (List.mem_append_right _ h)) (by decide +kernel))
set_option maxRecDepth 20000 in
theorem gX7_offBy_X7_isWaiting : GoodIn wsX7_offBy (wsV RX7 183 RX7 yX7_isWaiting wsX7_isWaiting) := goodIn_app (goodIn_of _ (by decide +kernel)) ggX7_offBy_X7_isWaiting
set_option maxRecDepth 20000 in
theorem ggX7_offBy_X7_off : GoodIn wsX7_offBy wsX7_off := goodIn_ca (goodIn_r _ [19, 20, 21, 22, 23, 24, 25, 4, 26, 27, 28, 29, 30, 31, 32, 33, 34, 35, 36, 37, 38, 39, 40, 41, 42, 43, 44, 45, 46, 47, 48, 49, 50, 51, 52, 53, 54, 55] (by decide +kernel) (by decide +kernel)) (goodIn_sub (fun _ h => List.mem_cons_of_mem _ (List.mem_append_right _ h)) (by decide +kernel))
set_option maxRecDepth 20000 in
theorem gX7_offBy_X7_off : GoodIn wsX7_offBy (wsV RX7 143 RX7 yX7_off wsX7_off) := goodIn_app (goodIn_of _ (by decide +kernel)) ggX7_offBy_X7_off
theorem dX7_offBy_0 : decode cX7_offBy 0 = .ok (.aload_n 0, 1) := by decide +kernel
theorem dX7_offBy_1 : decode cX7_offBy 1 = .ok (.iload_n 1, 1) := by decide +kernel
theorem dX7_offBy_2 : decode cX7_offBy 2 = .ok (.invokevirtual 183, 3) := by decide +kernel
theorem dX7_offBy_5 : decode cX7_offBy 5 = .ok (.ifCond .eq 7, 3) := by decide +kernel
theorem dX7_offBy_8 : decode cX7_offBy 8 = .ok (.iconst 0, 1) := by decide +kernel
theorem dX7_offBy_9 : decode cX7_offBy 9 = .ok (.goto 8, 3) := by decide +kernel
theorem dX7_offBy_12 : decode cX7_offBy 12 = .ok (.aload_n 0, 1) := by decide +kernel
theorem dX7_offBy_13 : decode cX7_offBy 13 = .ok (.iload_n 1, 1) := by decide +kernel
theorem dX7_offBy_14 : decode cX7_offBy 14 = .ok (.invokevirtual 143, 3) := by decide +kernel
theorem dX7_offBy_17 : decode cX7_offBy 17 = .ok (.ireturn, 1) := by decide +kernel
set_option maxRecDepth 20000 in
theorem ggX7_distance_X7_noLot : GoodIn wsX7_distance wsX7_noLot := goodIn_r _ [5, 6, 7, 8, 9, 4, 10, 24, 25, 26, 27, 28, 29, 30, 31, 32, 33, 34, 35, 36, 37, 38, 39, 40, 41, 42, 43, 44, 45, 46, 47, 48, 49, 50, 51, 52] (by decide +kernel) (by decide +kernel)
set_option maxRecDepth 20000 in
theorem gX7_distance_X7_noLot : GoodIn wsX7_distance (wsV RX7 120 RX7 yX7_noLot wsX7_noLot) := goodIn_app (goodIn_of _ (by decide +kernel)) ggX7_distance_X7_noLot
set_option maxRecDepth 20000 in
theorem ggX7_distance_X7_isWaiting : GoodIn wsX7_distance wsX7_isWaiting := goodIn_ca (goodIn_r _ [14, 15, 7, 1, 2, 3, 4, 5, 6, 8, 9, 10, 24, 25, 26, 27, 28, 29, 30, 31, 32, 33, 34, 35, 36, 37, 38, 39, 40, 41, 42, 43, 44, 45, 46, 47, 48, 49, 50, 51, 52] (by decide +kernel) (by decide +kernel)) (goodIn_sub (fun _ h => List.mem_cons_of_mem _ (List.mem_append_right _ h)) (by decide +kernel))
set_option maxRecDepth 20000 in
theorem gX7_distance_X7_isWaiting : GoodIn wsX7_distance (wsV RX7 183 RX7 yX7_isWaiting wsX7_isWaiting) := goodIn_app (goodIn_of _ (by decide +kernel)) ggX7_distance_X7_isWaiting
set_option maxRecDepth 20000 in
theorem ggX7_distance_X7_apart : GoodIn wsX7_distance wsX7_apart := goodIn_ca (goodIn_r _ [19, 20, 21, 22, 4, 23, 24, 25, 26, 27, 28, 29, 30, 31, 32, 33, 34, 35, 36, 37, 38, 39, 40, 41, 42, 43, 44, 45, 46, 47, 48, 49, 50, 51, 52] (by decide +kernel) (by decide +kernel)) (goodIn_sub (fun _ h => List.mem_cons_of_mem _ (List.mem_append_right _ h)) (by decide +kernel))
set_option maxRecDepth 20000 in
theorem gX7_distance_X7_apart : GoodIn wsX7_distance (wsV RX7 146 RX7 yX7_apart wsX7_apart) := goodIn_app (goodIn_of _ (by decide +kernel)) ggX7_distance_X7_apart
theorem dX7_distance_0 : decode cX7_distance 0 = .ok (.aload_n 0, 1) := by decide +kernel
theorem dX7_distance_1 : decode cX7_distance 1 = .ok (.iload_n 1, 1) := by decide +kernel
theorem dX7_distance_2 : decode cX7_distance 2 = .ok (.invokevirtual 120, 3) := by decide +kernel
theorem dX7_distance_5 : decode cX7_distance 5 = .ok (.ifCond .ne 11, 3) := by decide +kernel
theorem dX7_distance_8 : decode cX7_distance 8 = .ok (.aload_n 0, 1) := by decide +kernel
theorem dX7_distance_9 : decode cX7_distance 9 = .ok (.iload_n 2, 1) := by decide +kernel
theorem dX7_distance_10 : decode cX7_distance 10 = .ok (.invokevirtual 120, 3) := by decide +kernel
theorem dX7_distance_13 : decode cX7_distance 13 = .ok (.ifCond .eq 5, 3) := by decide +kernel
theorem dX7_distance_16 : decode cX7_distance 16 = .ok (.iconst 0, 1) := by decide +kernel
theorem dX7_distance_17 : decode cX7_distance 17 = .ok (.ireturn, 1) := by decide +kernel
theorem dX7_distance_18 : decode cX7_distance 18 = .ok (.aload_n 0, 1) := by decide +kernel
theorem dX7_distance_19 : decode cX7_distance 19 = .ok (.iload_n 1, 1) := by decide +kernel
theorem dX7_distance_20 : decode cX7_distance 20 = .ok (.invokevirtual 183, 3) := by decide +kernel
theorem dX7_distance_23 : decode cX7_distance 23 = .ok (.ifCond .ne 11, 3) := by decide +kernel
theorem dX7_distance_26 : decode cX7_distance 26 = .ok (.aload_n 0, 1) := by decide +kernel
theorem dX7_distance_27 : decode cX7_distance 27 = .ok (.iload_n 2, 1) := by decide +kernel
theorem dX7_distance_28 : decode cX7_distance 28 = .ok (.invokevirtual 183, 3) := by decide +kernel
theorem dX7_distance_31 : decode cX7_distance 31 = .ok (.ifCond .eq 7, 3) := by decide +kernel
theorem dX7_distance_34 : decode cX7_distance 34 = .ok (.iconst 0, 1) := by decide +kernel
theorem dX7_distance_35 : decode cX7_distance 35 = .ok (.goto 9, 3) := by decide +kernel
theorem dX7_distance_38 : decode cX7_distance 38 = .ok (.aload_n 0, 1) := by decide +kernel
theorem dX7_distance_39 : decode cX7_distance 39 = .ok (.iload_n 1, 1) := by decide +kernel
theorem dX7_distance_40 : decode cX7_distance 40 = .ok (.iload_n 2, 1) := by decide +kernel
theorem dX7_distance_41 : decode cX7_distance 41 = .ok (.invokevirtual 146, 3) := by decide +kernel
theorem dX7_distance_44 : decode cX7_distance 44 = .ok (.ireturn, 1) := by decide +kernel
set_option maxRecDepth 20000 in
theorem ggX7_nearest_X7_isWaiting : GoodIn wsX7_nearest wsX7_isWaiting := goodIn_ca (goodIn_r _ [7, 2, 8, 9, 10, 11, 6, 12, 1, 13, 14, 15, 28, 29, 30, 31, 32, 33, 34, 35, 36, 37, 38, 39, 40, 41, 42, 43, 44, 45, 46, 47, 48, 49, 50, 51, 52, 53, 54, 55, 56] (by decide +kernel) (by decide +kernel)) (goodIn_sub (fun _ h => List.mem_cons_of_mem _ (List.mem_append_right _ h)) (by decide +kernel))
set_option maxRecDepth 20000 in
theorem gX7_nearest_X7_isWaiting : GoodIn wsX7_nearest (wsV RX7 183 RX7 yX7_isWaiting wsX7_isWaiting) := goodIn_app (goodIn_of _ (by decide +kernel)) ggX7_nearest_X7_isWaiting
set_option maxRecDepth 20000 in
theorem ggX7_nearest_X7_apart : GoodIn wsX7_nearest wsX7_apart := goodIn_ca (goodIn_r _ [19, 20, 21, 22, 6, 23, 28, 29, 30, 31, 32, 33, 34, 35, 36, 37, 38, 39, 40, 41, 42, 43, 44, 45, 46, 47, 48, 49, 50, 51, 52, 53, 54, 55, 56] (by decide +kernel) (by decide +kernel)) (goodIn_sub (fun _ h => List.mem_cons_of_mem _ (List.mem_append_right _ h)) (by decide +kernel))
set_option maxRecDepth 20000 in
theorem gX7_nearest_X7_apart : GoodIn wsX7_nearest (wsV RX7 146 RX7 yX7_apart wsX7_apart) := goodIn_app (goodIn_of _ (by decide +kernel)) ggX7_nearest_X7_apart
set_option maxRecDepth 20000 in
theorem ggX7_nearest_X7_refuse : GoodIn wsX7_nearest wsX7_refuse := goodIn_r _ [27, 8, 28, 29, 30, 31, 32, 33, 34, 35, 36, 37, 38, 39, 40, 41, 42, 43, 44, 45, 46, 47, 48, 49, 50, 51, 52, 53, 54, 55, 56] (by decide +kernel) (by decide +kernel)
set_option maxRecDepth 20000 in
theorem gX7_nearest_X7_refuse : GoodIn wsX7_nearest (wsV RX7 104 RX7 yX7_refuse wsX7_refuse) := goodIn_app (goodIn_of _ (by decide +kernel)) ggX7_nearest_X7_refuse
theorem dX7_nearest_0 : decode cX7_nearest 0 = .ok (.aload_n 0, 1) := by decide +kernel
theorem dX7_nearest_1 : decode cX7_nearest 1 = .ok (.iload_n 1, 1) := by decide +kernel
theorem dX7_nearest_2 : decode cX7_nearest 2 = .ok (.invokevirtual 183, 3) := by decide +kernel
theorem dX7_nearest_5 : decode cX7_nearest 5 = .ok (.ifCond .eq 5, 3) := by decide +kernel
theorem dX7_nearest_8 : decode cX7_nearest 8 = .ok (.iconst 0, 1) := by decide +kernel
theorem dX7_nearest_9 : decode cX7_nearest 9 = .ok (.ireturn, 1) := by decide +kernel
theorem dX7_nearest_10 : decode cX7_nearest 10 = .ok (.iconst (-1), 1) := by decide +kernel
theorem dX7_nearest_11 : decode cX7_nearest 11 = .ok (.istore_n 2, 1) := by decide +kernel
theorem dX7_nearest_12 : decode cX7_nearest 12 = .ok (.iconst 0, 1) := by decide +kernel
theorem dX7_nearest_13 : decode cX7_nearest 13 = .ok (.istore_n 3, 1) := by decide +kernel
theorem dX7_nearest_14 : decode cX7_nearest 14 = .ok (.iload_n 3, 1) := by decide +kernel
theorem dX7_nearest_15 : decode cX7_nearest 15 = .ok (.aload_n 0, 1) := by decide +kernel
theorem dX7_nearest_16 : decode cX7_nearest 16 = .ok (.getfield 92, 3) := by decide +kernel
theorem dX7_nearest_19 : decode cX7_nearest 19 = .ok (.if_icmp .ge 47, 3) := by decide +kernel
theorem dX7_nearest_22 : decode cX7_nearest 22 = .ok (.iload_n 3, 1) := by decide +kernel
theorem dX7_nearest_23 : decode cX7_nearest 23 = .ok (.iload_n 1, 1) := by decide +kernel
theorem dX7_nearest_24 : decode cX7_nearest 24 = .ok (.if_icmp .eq 36, 3) := by decide +kernel
theorem dX7_nearest_27 : decode cX7_nearest 27 = .ok (.aload_n 0, 1) := by decide +kernel
theorem dX7_nearest_28 : decode cX7_nearest 28 = .ok (.getfield 59, 3) := by decide +kernel
theorem dX7_nearest_31 : decode cX7_nearest 31 = .ok (.iload_n 3, 1) := by decide +kernel
theorem dX7_nearest_32 : decode cX7_nearest 32 = .ok (.caload, 1) := by decide +kernel
theorem dX7_nearest_33 : decode cX7_nearest 33 = .ok (.bipush 112, 2) := by decide +kernel
theorem dX7_nearest_35 : decode cX7_nearest 35 = .ok (.if_icmp .ne 25, 3) := by decide +kernel
theorem dX7_nearest_38 : decode cX7_nearest 38 = .ok (.iload_n 2, 1) := by decide +kernel
theorem dX7_nearest_39 : decode cX7_nearest 39 = .ok (.iconst (-1), 1) := by decide +kernel
theorem dX7_nearest_40 : decode cX7_nearest 40 = .ok (.if_icmp .eq 18, 3) := by decide +kernel
theorem dX7_nearest_43 : decode cX7_nearest 43 = .ok (.aload_n 0, 1) := by decide +kernel
theorem dX7_nearest_44 : decode cX7_nearest 44 = .ok (.iload_n 1, 1) := by decide +kernel
theorem dX7_nearest_45 : decode cX7_nearest 45 = .ok (.iload_n 3, 1) := by decide +kernel
theorem dX7_nearest_46 : decode cX7_nearest 46 = .ok (.invokevirtual 146, 3) := by decide +kernel
theorem dX7_nearest_49 : decode cX7_nearest 49 = .ok (.aload_n 0, 1) := by decide +kernel
theorem dX7_nearest_50 : decode cX7_nearest 50 = .ok (.iload_n 1, 1) := by decide +kernel
theorem dX7_nearest_51 : decode cX7_nearest 51 = .ok (.iload_n 2, 1) := by decide +kernel
theorem dX7_nearest_52 : decode cX7_nearest 52 = .ok (.invokevirtual 146, 3) := by decide +kernel
theorem dX7_nearest_55 : decode cX7_nearest 55 = .ok (.if_icmp .ge 5, 3) := by decide +kernel
theorem dX7_nearest_58 : decode cX7_nearest 58 = .ok (.iload_n 3, 1) := by decide +kernel
theorem dX7_nearest_59 : decode cX7_nearest 59 = .ok (.istore_n 2, 1) := by decide +kernel
theorem dX7_nearest_60 : decode cX7_nearest 60 = .ok (.iinc 3 1, 3) := by decide +kernel
theorem dX7_nearest_63 : decode cX7_nearest 63 = .ok (.goto (-49), 3) := by decide +kernel
theorem dX7_nearest_66 : decode cX7_nearest 66 = .ok (.iload_n 2, 1) := by decide +kernel
theorem dX7_nearest_67 : decode cX7_nearest 67 = .ok (.iconst (-1), 1) := by decide +kernel
theorem dX7_nearest_68 : decode cX7_nearest 68 = .ok (.if_icmp .ne 9, 3) := by decide +kernel
theorem dX7_nearest_71 : decode cX7_nearest 71 = .ok (.aload_n 0, 1) := by decide +kernel
theorem dX7_nearest_72 : decode cX7_nearest 72 = .ok (.iconst 3, 1) := by decide +kernel
theorem dX7_nearest_73 : decode cX7_nearest 73 = .ok (.invokevirtual 104, 3) := by decide +kernel
theorem dX7_nearest_76 : decode cX7_nearest 76 = .ok (.ireturn, 1) := by decide +kernel
theorem dX7_nearest_77 : decode cX7_nearest 77 = .ok (.iload_n 2, 1) := by decide +kernel
theorem dX7_nearest_78 : decode cX7_nearest 78 = .ok (.ireturn, 1) := by decide +kernel
theorem dX7_isAhead_0 : decode cX7_isAhead 0 = .ok (.iconst 0, 1) := by decide +kernel
theorem dX7_isAhead_1 : decode cX7_isAhead 1 = .ok (.istore_n 3, 1) := by decide +kernel
theorem dX7_isAhead_2 : decode cX7_isAhead 2 = .ok (.iload_n 3, 1) := by decide +kernel
theorem dX7_isAhead_3 : decode cX7_isAhead 3 = .ok (.iconst 3, 1) := by decide +kernel
theorem dX7_isAhead_4 : decode cX7_isAhead 4 = .ok (.if_icmp .ge 72, 3) := by decide +kernel
theorem dX7_isAhead_7 : decode cX7_isAhead 7 = .ok (.aload_n 0, 1) := by decide +kernel
theorem dX7_isAhead_8 : decode cX7_isAhead 8 = .ok (.getfield 44, 3) := by decide +kernel
theorem dX7_isAhead_11 : decode cX7_isAhead 11 = .ok (.iconst 3, 1) := by decide +kernel
theorem dX7_isAhead_12 : decode cX7_isAhead 12 = .ok (.iload_n 1, 1) := by decide +kernel
theorem dX7_isAhead_13 : decode cX7_isAhead 13 = .ok (.imul, 1) := by decide +kernel
theorem dX7_isAhead_14 : decode cX7_isAhead 14 = .ok (.iload_n 3, 1) := by decide +kernel
theorem dX7_isAhead_15 : decode cX7_isAhead 15 = .ok (.iadd, 1) := by decide +kernel
theorem dX7_isAhead_16 : decode cX7_isAhead 16 = .ok (.iaload, 1) := by decide +kernel
theorem dX7_isAhead_17 : decode cX7_isAhead 17 = .ok (.istore 4, 2) := by decide +kernel
theorem dX7_isAhead_19 : decode cX7_isAhead 19 = .ok (.aload_n 0, 1) := by decide +kernel
theorem dX7_isAhead_20 : decode cX7_isAhead 20 = .ok (.getfield 44, 3) := by decide +kernel
theorem dX7_isAhead_23 : decode cX7_isAhead 23 = .ok (.iconst 3, 1) := by decide +kernel
theorem dX7_isAhead_24 : decode cX7_isAhead 24 = .ok (.iload_n 2, 1) := by decide +kernel
theorem dX7_isAhead_25 : decode cX7_isAhead 25 = .ok (.imul, 1) := by decide +kernel
theorem dX7_isAhead_26 : decode cX7_isAhead 26 = .ok (.iload_n 3, 1) := by decide +kernel
theorem dX7_isAhead_27 : decode cX7_isAhead 27 = .ok (.iadd, 1) := by decide +kernel
theorem dX7_isAhead_28 : decode cX7_isAhead 28 = .ok (.iaload, 1) := by decide +kernel
theorem dX7_isAhead_29 : decode cX7_isAhead 29 = .ok (.istore 5, 2) := by decide +kernel
theorem dX7_isAhead_31 : decode cX7_isAhead 31 = .ok (.iload 4, 2) := by decide +kernel
theorem dX7_isAhead_33 : decode cX7_isAhead 33 = .ok (.iload 5, 2) := by decide +kernel
theorem dX7_isAhead_35 : decode cX7_isAhead 35 = .ok (.if_icmp .eq 35, 3) := by decide +kernel
theorem dX7_isAhead_38 : decode cX7_isAhead 38 = .ok (.iload_n 3, 1) := by decide +kernel
theorem dX7_isAhead_39 : decode cX7_isAhead 39 = .ok (.ifCond .ne 18, 3) := by decide +kernel
theorem dX7_isAhead_42 : decode cX7_isAhead 42 = .ok (.iload 4, 2) := by decide +kernel
theorem dX7_isAhead_44 : decode cX7_isAhead 44 = .ok (.iload 5, 2) := by decide +kernel
theorem dX7_isAhead_46 : decode cX7_isAhead 46 = .ok (.if_icmp .le 7, 3) := by decide +kernel
theorem dX7_isAhead_49 : decode cX7_isAhead 49 = .ok (.iconst 1, 1) := by decide +kernel
theorem dX7_isAhead_50 : decode cX7_isAhead 50 = .ok (.goto 19, 3) := by decide +kernel
theorem dX7_isAhead_53 : decode cX7_isAhead 53 = .ok (.iconst 0, 1) := by decide +kernel
theorem dX7_isAhead_54 : decode cX7_isAhead 54 = .ok (.goto 15, 3) := by decide +kernel
theorem dX7_isAhead_57 : decode cX7_isAhead 57 = .ok (.iload 4, 2) := by decide +kernel
theorem dX7_isAhead_59 : decode cX7_isAhead 59 = .ok (.iload 5, 2) := by decide +kernel
theorem dX7_isAhead_61 : decode cX7_isAhead 61 = .ok (.if_icmp .ge 7, 3) := by decide +kernel
theorem dX7_isAhead_64 : decode cX7_isAhead 64 = .ok (.iconst 1, 1) := by decide +kernel
theorem dX7_isAhead_65 : decode cX7_isAhead 65 = .ok (.goto 4, 3) := by decide +kernel
theorem dX7_isAhead_68 : decode cX7_isAhead 68 = .ok (.iconst 0, 1) := by decide +kernel
theorem dX7_isAhead_69 : decode cX7_isAhead 69 = .ok (.ireturn, 1) := by decide +kernel
theorem dX7_isAhead_70 : decode cX7_isAhead 70 = .ok (.iinc 3 1, 3) := by decide +kernel
theorem dX7_isAhead_73 : decode cX7_isAhead 73 = .ok (.goto (-71), 3) := by decide +kernel
theorem dX7_isAhead_76 : decode cX7_isAhead 76 = .ok (.iload_n 1, 1) := by decide +kernel
theorem dX7_isAhead_77 : decode cX7_isAhead 77 = .ok (.iload_n 2, 1) := by decide +kernel
theorem dX7_isAhead_78 : decode cX7_isAhead 78 = .ok (.if_icmp .ge 7, 3) := by decide +kernel
theorem dX7_isAhead_81 : decode cX7_isAhead 81 = .ok (.iconst 1, 1) := by decide +kernel
theorem dX7_isAhead_82 : decode cX7_isAhead 82 = .ok (.goto 4, 3) := by decide +kernel
theorem dX7_isAhead_85 : decode cX7_isAhead 85 = .ok (.iconst 0, 1) := by decide +kernel
theorem dX7_isAhead_86 : decode cX7_isAhead 86 = .ok (.ireturn, 1) := by decide +kernel
set_option maxRecDepth 20000 in
theorem ggX7_byLight_X7_isAhead : GoodIn wsX7_byLight wsX7_isAhead := goodIn_ca (goodIn_r _ [8, 9, 14, 15, 16, 17, 18, 19, 20, 21, 22, 23, 24, 25, 26, 27, 28, 29, 30, 31, 32, 33, 34, 35, 36, 37, 38, 39, 40, 41, 42] (by decide +kernel) (by decide +kernel)) (goodIn_sub (fun _ h => List.mem_cons_of_mem _ (List.mem_append_right _ h)) (by decide +kernel))
set_option maxRecDepth 20000 in
theorem gX7_byLight_X7_isAhead : GoodIn wsX7_byLight (wsV RX7 186 RX7 yX7_isAhead wsX7_isAhead) := goodIn_app (goodIn_of _ (by decide +kernel)) ggX7_byLight_X7_isAhead
set_option maxRecDepth 20000 in
theorem ggX7_byLight_X7_refuse : GoodIn wsX7_byLight wsX7_refuse := goodIn_r _ [13, 3, 14, 15, 16, 17, 18, 19, 20, 21, 22, 23, 24, 25, 26, 27, 28, 29, 30, 31, 32, 33, 34, 35, 36, 37, 38, 39, 40, 41, 42] (by decide +kernel) (by decide +kernel)
set_option maxRecDepth 20000 in
theorem gX7_byLight_X7_refuse : GoodIn wsX7_byLight (wsV RX7 104 RX7 yX7_refuse wsX7_refuse) := goodIn_app (goodIn_of _ (by decide +kernel)) ggX7_byLight_X7_refuse
theorem dX7_byLight_0 : decode cX7_byLight 0 = .ok (.iconst 0, 1) := by decide +kernel
theorem dX7_byLight_1 : decode cX7_byLight 1 = .ok (.istore_n 2, 1) := by decide +kernel
theorem dX7_byLight_2 : decode cX7_byLight 2 = .ok (.iload_n 2, 1) := by decide +kernel
theorem dX7_byLight_3 : decode cX7_byLight 3 = .ok (.aload_n 0, 1) := by decide +kernel
theorem dX7_byLight_4 : decode cX7_byLight 4 = .ok (.getfield 92, 3) := by decide +kernel
theorem dX7_byLight_7 : decode cX7_byLight 7 = .ok (.if_icmp .ge 94, 3) := by decide +kernel
theorem dX7_byLight_10 : decode cX7_byLight 10 = .ok (.aload_n 0, 1) := by decide +kernel
theorem dX7_byLight_11 : decode cX7_byLight 11 = .ok (.getfield 59, 3) := by decide +kernel
theorem dX7_byLight_14 : decode cX7_byLight 14 = .ok (.iload_n 2, 1) := by decide +kernel
theorem dX7_byLight_15 : decode cX7_byLight 15 = .ok (.caload, 1) := by decide +kernel
theorem dX7_byLight_16 : decode cX7_byLight 16 = .ok (.bipush 119, 2) := by decide +kernel
theorem dX7_byLight_18 : decode cX7_byLight 18 = .ok (.if_icmp .ne 6, 3) := by decide +kernel
theorem dX7_byLight_21 : decode cX7_byLight 21 = .ok (.goto 74, 3) := by decide +kernel
theorem dX7_byLight_24 : decode cX7_byLight 24 = .ok (.iconst 0, 1) := by decide +kernel
theorem dX7_byLight_25 : decode cX7_byLight 25 = .ok (.istore_n 3, 1) := by decide +kernel
theorem dX7_byLight_26 : decode cX7_byLight 26 = .ok (.iconst 0, 1) := by decide +kernel
theorem dX7_byLight_27 : decode cX7_byLight 27 = .ok (.istore 4, 2) := by decide +kernel
theorem dX7_byLight_29 : decode cX7_byLight 29 = .ok (.iload 4, 2) := by decide +kernel
theorem dX7_byLight_31 : decode cX7_byLight 31 = .ok (.aload_n 0, 1) := by decide +kernel
theorem dX7_byLight_32 : decode cX7_byLight 32 = .ok (.getfield 92, 3) := by decide +kernel
theorem dX7_byLight_35 : decode cX7_byLight 35 = .ok (.if_icmp .ge 45, 3) := by decide +kernel
theorem dX7_byLight_38 : decode cX7_byLight 38 = .ok (.iload_n 3, 1) := by decide +kernel
theorem dX7_byLight_39 : decode cX7_byLight 39 = .ok (.aload_n 0, 1) := by decide +kernel
theorem dX7_byLight_40 : decode cX7_byLight 40 = .ok (.getfield 59, 3) := by decide +kernel
theorem dX7_byLight_43 : decode cX7_byLight 43 = .ok (.iload 4, 2) := by decide +kernel
theorem dX7_byLight_45 : decode cX7_byLight 45 = .ok (.caload, 1) := by decide +kernel
theorem dX7_byLight_46 : decode cX7_byLight 46 = .ok (.bipush 119, 2) := by decide +kernel
theorem dX7_byLight_48 : decode cX7_byLight 48 = .ok (.if_icmp .eq 23, 3) := by decide +kernel
theorem dX7_byLight_51 : decode cX7_byLight 51 = .ok (.iload 4, 2) := by decide +kernel
theorem dX7_byLight_53 : decode cX7_byLight 53 = .ok (.iload_n 2, 1) := by decide +kernel
theorem dX7_byLight_54 : decode cX7_byLight 54 = .ok (.if_icmp .eq 17, 3) := by decide +kernel
theorem dX7_byLight_57 : decode cX7_byLight 57 = .ok (.aload_n 0, 1) := by decide +kernel
theorem dX7_byLight_58 : decode cX7_byLight 58 = .ok (.iload 4, 2) := by decide +kernel
theorem dX7_byLight_60 : decode cX7_byLight 60 = .ok (.iload_n 2, 1) := by decide +kernel
theorem dX7_byLight_61 : decode cX7_byLight 61 = .ok (.invokevirtual 186, 3) := by decide +kernel
theorem dX7_byLight_64 : decode cX7_byLight 64 = .ok (.ifCond .eq 7, 3) := by decide +kernel
theorem dX7_byLight_67 : decode cX7_byLight 67 = .ok (.iconst 1, 1) := by decide +kernel
theorem dX7_byLight_68 : decode cX7_byLight 68 = .ok (.goto 4, 3) := by decide +kernel
theorem dX7_byLight_71 : decode cX7_byLight 71 = .ok (.iconst 0, 1) := by decide +kernel
theorem dX7_byLight_72 : decode cX7_byLight 72 = .ok (.iadd, 1) := by decide +kernel
theorem dX7_byLight_73 : decode cX7_byLight 73 = .ok (.istore_n 3, 1) := by decide +kernel
theorem dX7_byLight_74 : decode cX7_byLight 74 = .ok (.iinc 4 1, 3) := by decide +kernel
theorem dX7_byLight_77 : decode cX7_byLight 77 = .ok (.goto (-48), 3) := by decide +kernel
theorem dX7_byLight_80 : decode cX7_byLight 80 = .ok (.iload_n 3, 1) := by decide +kernel
theorem dX7_byLight_81 : decode cX7_byLight 81 = .ok (.iload_n 1, 1) := by decide +kernel
theorem dX7_byLight_82 : decode cX7_byLight 82 = .ok (.if_icmp .eq 6, 3) := by decide +kernel
theorem dX7_byLight_85 : decode cX7_byLight 85 = .ok (.goto 10, 3) := by decide +kernel
theorem dX7_byLight_88 : decode cX7_byLight 88 = .ok (.aload_n 0, 1) := by decide +kernel
theorem dX7_byLight_89 : decode cX7_byLight 89 = .ok (.iconst 0, 1) := by decide +kernel
theorem dX7_byLight_90 : decode cX7_byLight 90 = .ok (.putfield 84, 3) := by decide +kernel
theorem dX7_byLight_93 : decode cX7_byLight 93 = .ok (.iload_n 2, 1) := by decide +kernel
theorem dX7_byLight_94 : decode cX7_byLight 94 = .ok (.ireturn, 1) := by decide +kernel
theorem dX7_byLight_95 : decode cX7_byLight 95 = .ok (.iinc 2 1, 3) := by decide +kernel
theorem dX7_byLight_98 : decode cX7_byLight 98 = .ok (.goto (-96), 3) := by decide +kernel
theorem dX7_byLight_101 : decode cX7_byLight 101 = .ok (.aload_n 0, 1) := by decide +kernel
theorem dX7_byLight_102 : decode cX7_byLight 102 = .ok (.iconst 1, 1) := by decide +kernel
theorem dX7_byLight_103 : decode cX7_byLight 103 = .ok (.invokevirtual 104, 3) := by decide +kernel
theorem dX7_byLight_106 : decode cX7_byLight 106 = .ok (.ireturn, 1) := by decide +kernel
set_option maxRecDepth 20000 in
theorem ggX7_clock_X7_noVat : GoodIn wsX7_clock wsX7_noVat := goodIn_r _ [6, 7, 8, 9, 10, 5, 11, 12, 13, 14, 15, 16, 17, 18, 19, 20, 21, 22, 23, 24, 25, 26, 27, 28, 29, 30, 31, 32, 33, 34, 35, 36, 37, 38, 39, 40] (by decide +kernel) (by decide +kernel)
set_option maxRecDepth 20000 in
theorem gX7_clock_X7_noVat : GoodIn wsX7_clock (wsV RX7 133 RX7 yX7_noVat wsX7_noVat) := goodIn_app (goodIn_of _ (by decide +kernel)) ggX7_clock_X7_noVat
theorem dX7_clock_0 : decode cX7_clock 0 = .ok (.aload_n 0, 1) := by decide +kernel
theorem dX7_clock_1 : decode cX7_clock 1 = .ok (.iload_n 1, 1) := by decide +kernel
theorem dX7_clock_2 : decode cX7_clock 2 = .ok (.invokevirtual 133, 3) := by decide +kernel
theorem dX7_clock_5 : decode cX7_clock 5 = .ok (.ifCond .eq 7, 3) := by decide +kernel
theorem dX7_clock_8 : decode cX7_clock 8 = .ok (.iconst 0, 1) := by decide +kernel
theorem dX7_clock_9 : decode cX7_clock 9 = .ok (.goto 9, 3) := by decide +kernel
theorem dX7_clock_12 : decode cX7_clock 12 = .ok (.aload_n 0, 1) := by decide +kernel
theorem dX7_clock_13 : decode cX7_clock 13 = .ok (.getfield 72, 3) := by decide +kernel
theorem dX7_clock_16 : decode cX7_clock 16 = .ok (.iload_n 1, 1) := by decide +kernel
theorem dX7_clock_17 : decode cX7_clock 17 = .ok (.iaload, 1) := by decide +kernel
theorem dX7_clock_18 : decode cX7_clock 18 = .ok (.ireturn, 1) := by decide +kernel
set_option maxRecDepth 20000 in
theorem ggX7_cleanings_X7_noVat : GoodIn wsX7_cleanings wsX7_noVat := goodIn_r _ [6, 7, 8, 9, 10, 5, 11, 12, 13, 14, 15, 16, 17, 18, 19, 20, 21, 22, 23, 24, 25, 26, 27, 28, 29, 30, 31, 32, 33, 34, 35, 36, 37, 38, 39, 40] (by decide +kernel) (by decide +kernel)
set_option maxRecDepth 20000 in
theorem gX7_cleanings_X7_noVat : GoodIn wsX7_cleanings (wsV RX7 133 RX7 yX7_noVat wsX7_noVat) := goodIn_app (goodIn_of _ (by decide +kernel)) ggX7_cleanings_X7_noVat
theorem dX7_cleanings_0 : decode cX7_cleanings 0 = .ok (.aload_n 0, 1) := by decide +kernel
theorem dX7_cleanings_1 : decode cX7_cleanings 1 = .ok (.iload_n 1, 1) := by decide +kernel
theorem dX7_cleanings_2 : decode cX7_cleanings 2 = .ok (.invokevirtual 133, 3) := by decide +kernel
theorem dX7_cleanings_5 : decode cX7_cleanings 5 = .ok (.ifCond .eq 7, 3) := by decide +kernel
theorem dX7_cleanings_8 : decode cX7_cleanings 8 = .ok (.iconst 0, 1) := by decide +kernel
theorem dX7_cleanings_9 : decode cX7_cleanings 9 = .ok (.goto 9, 3) := by decide +kernel
theorem dX7_cleanings_12 : decode cX7_cleanings 12 = .ok (.aload_n 0, 1) := by decide +kernel
theorem dX7_cleanings_13 : decode cX7_cleanings 13 = .ok (.getfield 75, 3) := by decide +kernel
theorem dX7_cleanings_16 : decode cX7_cleanings 16 = .ok (.iload_n 1, 1) := by decide +kernel
theorem dX7_cleanings_17 : decode cX7_cleanings 17 = .ok (.iaload, 1) := by decide +kernel
theorem dX7_cleanings_18 : decode cX7_cleanings 18 = .ok (.ireturn, 1) := by decide +kernel
set_option maxRecDepth 20000 in
theorem ggX7_lightIn_X7_noVat : GoodIn wsX7_lightIn wsX7_noVat := goodIn_r _ [6, 7, 8, 9, 10, 5, 11, 16, 17, 18, 19, 20, 21, 22, 23, 24, 25, 26, 27, 28, 29, 30, 31, 32, 33, 34, 35, 36, 37, 38, 39, 40, 41, 42, 43, 44] (by decide +kernel) (by decide +kernel)
set_option maxRecDepth 20000 in
theorem gX7_lightIn_X7_noVat : GoodIn wsX7_lightIn (wsV RX7 133 RX7 yX7_noVat wsX7_noVat) := goodIn_app (goodIn_of _ (by decide +kernel)) ggX7_lightIn_X7_noVat
set_option maxRecDepth 20000 in
theorem ggX7_lightIn_X7_refuse : GoodIn wsX7_lightIn wsX7_refuse := goodIn_r _ [15, 8, 16, 17, 18, 19, 20, 21, 22, 23, 24, 25, 26, 27, 28, 29, 30, 31, 32, 33, 34, 35, 36, 37, 38, 39, 40, 41, 42, 43, 44] (by decide +kernel) (by decide +kernel)
set_option maxRecDepth 20000 in
theorem gX7_lightIn_X7_refuse : GoodIn wsX7_lightIn (wsV RX7 104 RX7 yX7_refuse wsX7_refuse) := goodIn_app (goodIn_of _ (by decide +kernel)) ggX7_lightIn_X7_refuse
theorem dX7_lightIn_0 : decode cX7_lightIn 0 = .ok (.aload_n 0, 1) := by decide +kernel
theorem dX7_lightIn_1 : decode cX7_lightIn 1 = .ok (.iload_n 1, 1) := by decide +kernel
theorem dX7_lightIn_2 : decode cX7_lightIn 2 = .ok (.invokevirtual 133, 3) := by decide +kernel
theorem dX7_lightIn_5 : decode cX7_lightIn 5 = .ok (.ifCond .eq 5, 3) := by decide +kernel
theorem dX7_lightIn_8 : decode cX7_lightIn 8 = .ok (.iconst 0, 1) := by decide +kernel
theorem dX7_lightIn_9 : decode cX7_lightIn 9 = .ok (.ireturn, 1) := by decide +kernel
theorem dX7_lightIn_10 : decode cX7_lightIn 10 = .ok (.aload_n 0, 1) := by decide +kernel
theorem dX7_lightIn_11 : decode cX7_lightIn 11 = .ok (.getfield 66, 3) := by decide +kernel
theorem dX7_lightIn_14 : decode cX7_lightIn 14 = .ok (.iload_n 1, 1) := by decide +kernel
theorem dX7_lightIn_15 : decode cX7_lightIn 15 = .ok (.iaload, 1) := by decide +kernel
theorem dX7_lightIn_16 : decode cX7_lightIn 16 = .ok (.iconst (-1), 1) := by decide +kernel
theorem dX7_lightIn_17 : decode cX7_lightIn 17 = .ok (.if_icmp .ne 9, 3) := by decide +kernel
theorem dX7_lightIn_20 : decode cX7_lightIn 20 = .ok (.aload_n 0, 1) := by decide +kernel
theorem dX7_lightIn_21 : decode cX7_lightIn 21 = .ok (.iconst 2, 1) := by decide +kernel
theorem dX7_lightIn_22 : decode cX7_lightIn 22 = .ok (.invokevirtual 104, 3) := by decide +kernel
theorem dX7_lightIn_25 : decode cX7_lightIn 25 = .ok (.ireturn, 1) := by decide +kernel
theorem dX7_lightIn_26 : decode cX7_lightIn 26 = .ok (.aload_n 0, 1) := by decide +kernel
theorem dX7_lightIn_27 : decode cX7_lightIn 27 = .ok (.getfield 66, 3) := by decide +kernel
theorem dX7_lightIn_30 : decode cX7_lightIn 30 = .ok (.iload_n 1, 1) := by decide +kernel
theorem dX7_lightIn_31 : decode cX7_lightIn 31 = .ok (.iaload, 1) := by decide +kernel
theorem dX7_lightIn_32 : decode cX7_lightIn 32 = .ok (.ireturn, 1) := by decide +kernel
set_option maxRecDepth 20000 in
theorem ggX7_customerOf_X7_noVat : GoodIn wsX7_customerOf wsX7_noVat := goodIn_r _ [6, 7, 8, 9, 10, 5, 11, 16, 17, 18, 19, 20, 21, 22, 23, 24, 25, 26, 27, 28, 29, 30, 31, 32, 33, 34, 35, 36, 37, 38, 39, 40, 41, 42, 43, 44] (by decide +kernel) (by decide +kernel)
set_option maxRecDepth 20000 in
theorem gX7_customerOf_X7_noVat : GoodIn wsX7_customerOf (wsV RX7 133 RX7 yX7_noVat wsX7_noVat) := goodIn_app (goodIn_of _ (by decide +kernel)) ggX7_customerOf_X7_noVat
set_option maxRecDepth 20000 in
theorem ggX7_customerOf_X7_refuse : GoodIn wsX7_customerOf wsX7_refuse := goodIn_r _ [15, 8, 16, 17, 18, 19, 20, 21, 22, 23, 24, 25, 26, 27, 28, 29, 30, 31, 32, 33, 34, 35, 36, 37, 38, 39, 40, 41, 42, 43, 44] (by decide +kernel) (by decide +kernel)
set_option maxRecDepth 20000 in
theorem gX7_customerOf_X7_refuse : GoodIn wsX7_customerOf (wsV RX7 104 RX7 yX7_refuse wsX7_refuse) := goodIn_app (goodIn_of _ (by decide +kernel)) ggX7_customerOf_X7_refuse
theorem dX7_customerOf_0 : decode cX7_customerOf 0 = .ok (.aload_n 0, 1) := by decide +kernel
theorem dX7_customerOf_1 : decode cX7_customerOf 1 = .ok (.iload_n 1, 1) := by decide +kernel
theorem dX7_customerOf_2 : decode cX7_customerOf 2 = .ok (.invokevirtual 133, 3) := by decide +kernel
theorem dX7_customerOf_5 : decode cX7_customerOf 5 = .ok (.ifCond .eq 5, 3) := by decide +kernel
theorem dX7_customerOf_8 : decode cX7_customerOf 8 = .ok (.iconst 0, 1) := by decide +kernel
theorem dX7_customerOf_9 : decode cX7_customerOf 9 = .ok (.ireturn, 1) := by decide +kernel
theorem dX7_customerOf_10 : decode cX7_customerOf 10 = .ok (.aload_n 0, 1) := by decide +kernel
theorem dX7_customerOf_11 : decode cX7_customerOf 11 = .ok (.getfield 69, 3) := by decide +kernel
theorem dX7_customerOf_14 : decode cX7_customerOf 14 = .ok (.iload_n 1, 1) := by decide +kernel
theorem dX7_customerOf_15 : decode cX7_customerOf 15 = .ok (.iaload, 1) := by decide +kernel
theorem dX7_customerOf_16 : decode cX7_customerOf 16 = .ok (.iconst (-1), 1) := by decide +kernel
theorem dX7_customerOf_17 : decode cX7_customerOf 17 = .ok (.if_icmp .ne 9, 3) := by decide +kernel
theorem dX7_customerOf_20 : decode cX7_customerOf 20 = .ok (.aload_n 0, 1) := by decide +kernel
theorem dX7_customerOf_21 : decode cX7_customerOf 21 = .ok (.iconst 2, 1) := by decide +kernel
theorem dX7_customerOf_22 : decode cX7_customerOf 22 = .ok (.invokevirtual 104, 3) := by decide +kernel
theorem dX7_customerOf_25 : decode cX7_customerOf 25 = .ok (.ireturn, 1) := by decide +kernel
theorem dX7_customerOf_26 : decode cX7_customerOf 26 = .ok (.aload_n 0, 1) := by decide +kernel
theorem dX7_customerOf_27 : decode cX7_customerOf 27 = .ok (.getfield 69, 3) := by decide +kernel
theorem dX7_customerOf_30 : decode cX7_customerOf 30 = .ok (.iload_n 1, 1) := by decide +kernel
theorem dX7_customerOf_31 : decode cX7_customerOf 31 = .ok (.iaload, 1) := by decide +kernel
theorem dX7_customerOf_32 : decode cX7_customerOf 32 = .ok (.ireturn, 1) := by decide +kernel
set_option maxRecDepth 20000 in
theorem ggX7_lotsOf_X7_noOrder : GoodIn wsX7_lotsOf wsX7_noOrder := goodIn_r _ [7, 8, 9, 10, 11, 6, 12, 13, 14, 15, 16, 17, 18, 19, 20, 21, 22, 23, 24, 25, 26, 27, 28, 29, 30, 31, 32, 33, 34, 35, 36, 37, 38, 39, 40, 41] (by decide +kernel) (by decide +kernel)
set_option maxRecDepth 20000 in
theorem gX7_lotsOf_X7_noOrder : GoodIn wsX7_lotsOf (wsV RX7 117 RX7 yX7_noOrder wsX7_noOrder) := goodIn_app (goodIn_of _ (by decide +kernel)) ggX7_lotsOf_X7_noOrder
theorem dX7_lotsOf_0 : decode cX7_lotsOf 0 = .ok (.aload_n 0, 1) := by decide +kernel
theorem dX7_lotsOf_1 : decode cX7_lotsOf 1 = .ok (.iload_n 1, 1) := by decide +kernel
theorem dX7_lotsOf_2 : decode cX7_lotsOf 2 = .ok (.invokevirtual 117, 3) := by decide +kernel
theorem dX7_lotsOf_5 : decode cX7_lotsOf 5 = .ok (.ifCond .eq 5, 3) := by decide +kernel
theorem dX7_lotsOf_8 : decode cX7_lotsOf 8 = .ok (.iconst 0, 1) := by decide +kernel
theorem dX7_lotsOf_9 : decode cX7_lotsOf 9 = .ok (.ireturn, 1) := by decide +kernel
theorem dX7_lotsOf_10 : decode cX7_lotsOf 10 = .ok (.iconst 0, 1) := by decide +kernel
theorem dX7_lotsOf_11 : decode cX7_lotsOf 11 = .ok (.istore_n 2, 1) := by decide +kernel
theorem dX7_lotsOf_12 : decode cX7_lotsOf 12 = .ok (.iconst 0, 1) := by decide +kernel
theorem dX7_lotsOf_13 : decode cX7_lotsOf 13 = .ok (.istore_n 3, 1) := by decide +kernel
theorem dX7_lotsOf_14 : decode cX7_lotsOf 14 = .ok (.iload_n 3, 1) := by decide +kernel
theorem dX7_lotsOf_15 : decode cX7_lotsOf 15 = .ok (.aload_n 0, 1) := by decide +kernel
theorem dX7_lotsOf_16 : decode cX7_lotsOf 16 = .ok (.getfield 92, 3) := by decide +kernel
theorem dX7_lotsOf_19 : decode cX7_lotsOf 19 = .ok (.if_icmp .ge 27, 3) := by decide +kernel
theorem dX7_lotsOf_22 : decode cX7_lotsOf 22 = .ok (.iload_n 2, 1) := by decide +kernel
theorem dX7_lotsOf_23 : decode cX7_lotsOf 23 = .ok (.aload_n 0, 1) := by decide +kernel
theorem dX7_lotsOf_24 : decode cX7_lotsOf 24 = .ok (.getfield 38, 3) := by decide +kernel
theorem dX7_lotsOf_27 : decode cX7_lotsOf 27 = .ok (.iload_n 3, 1) := by decide +kernel
theorem dX7_lotsOf_28 : decode cX7_lotsOf 28 = .ok (.iaload, 1) := by decide +kernel
theorem dX7_lotsOf_29 : decode cX7_lotsOf 29 = .ok (.iload_n 1, 1) := by decide +kernel
theorem dX7_lotsOf_30 : decode cX7_lotsOf 30 = .ok (.if_icmp .ne 7, 3) := by decide +kernel
theorem dX7_lotsOf_33 : decode cX7_lotsOf 33 = .ok (.iconst 1, 1) := by decide +kernel
theorem dX7_lotsOf_34 : decode cX7_lotsOf 34 = .ok (.goto 4, 3) := by decide +kernel
theorem dX7_lotsOf_37 : decode cX7_lotsOf 37 = .ok (.iconst 0, 1) := by decide +kernel
theorem dX7_lotsOf_38 : decode cX7_lotsOf 38 = .ok (.iadd, 1) := by decide +kernel
theorem dX7_lotsOf_39 : decode cX7_lotsOf 39 = .ok (.istore_n 2, 1) := by decide +kernel
theorem dX7_lotsOf_40 : decode cX7_lotsOf 40 = .ok (.iinc 3 1, 3) := by decide +kernel
theorem dX7_lotsOf_43 : decode cX7_lotsOf 43 = .ok (.goto (-29), 3) := by decide +kernel
theorem dX7_lotsOf_46 : decode cX7_lotsOf 46 = .ok (.iload_n 2, 1) := by decide +kernel
theorem dX7_lotsOf_47 : decode cX7_lotsOf 47 = .ok (.ireturn, 1) := by decide +kernel
set_option maxRecDepth 20000 in
theorem ggX7_passedOf_X7_noOrder : GoodIn wsX7_passedOf wsX7_noOrder := goodIn_r _ [8, 9, 10, 11, 12, 7, 13, 14, 15, 16, 17, 18, 19, 20, 21, 22, 23, 24, 25, 26, 27, 28, 29, 30, 31, 32, 33, 34, 35, 36, 37, 38, 39, 40, 41, 42] (by decide +kernel) (by decide +kernel)
set_option maxRecDepth 20000 in
theorem gX7_passedOf_X7_noOrder : GoodIn wsX7_passedOf (wsV RX7 117 RX7 yX7_noOrder wsX7_noOrder) := goodIn_app (goodIn_of _ (by decide +kernel)) ggX7_passedOf_X7_noOrder
theorem dX7_passedOf_0 : decode cX7_passedOf 0 = .ok (.aload_n 0, 1) := by decide +kernel
theorem dX7_passedOf_1 : decode cX7_passedOf 1 = .ok (.iload_n 1, 1) := by decide +kernel
theorem dX7_passedOf_2 : decode cX7_passedOf 2 = .ok (.invokevirtual 117, 3) := by decide +kernel
theorem dX7_passedOf_5 : decode cX7_passedOf 5 = .ok (.ifCond .eq 5, 3) := by decide +kernel
theorem dX7_passedOf_8 : decode cX7_passedOf 8 = .ok (.iconst 0, 1) := by decide +kernel
theorem dX7_passedOf_9 : decode cX7_passedOf 9 = .ok (.ireturn, 1) := by decide +kernel
theorem dX7_passedOf_10 : decode cX7_passedOf 10 = .ok (.iconst 0, 1) := by decide +kernel
theorem dX7_passedOf_11 : decode cX7_passedOf 11 = .ok (.istore_n 2, 1) := by decide +kernel
theorem dX7_passedOf_12 : decode cX7_passedOf 12 = .ok (.iconst 0, 1) := by decide +kernel
theorem dX7_passedOf_13 : decode cX7_passedOf 13 = .ok (.istore_n 3, 1) := by decide +kernel
theorem dX7_passedOf_14 : decode cX7_passedOf 14 = .ok (.iload_n 3, 1) := by decide +kernel
theorem dX7_passedOf_15 : decode cX7_passedOf 15 = .ok (.aload_n 0, 1) := by decide +kernel
theorem dX7_passedOf_16 : decode cX7_passedOf 16 = .ok (.getfield 92, 3) := by decide +kernel
theorem dX7_passedOf_19 : decode cX7_passedOf 19 = .ok (.if_icmp .ge 38, 3) := by decide +kernel
theorem dX7_passedOf_22 : decode cX7_passedOf 22 = .ok (.iload_n 2, 1) := by decide +kernel
theorem dX7_passedOf_23 : decode cX7_passedOf 23 = .ok (.aload_n 0, 1) := by decide +kernel
theorem dX7_passedOf_24 : decode cX7_passedOf 24 = .ok (.getfield 38, 3) := by decide +kernel
theorem dX7_passedOf_27 : decode cX7_passedOf 27 = .ok (.iload_n 3, 1) := by decide +kernel
theorem dX7_passedOf_28 : decode cX7_passedOf 28 = .ok (.iaload, 1) := by decide +kernel
theorem dX7_passedOf_29 : decode cX7_passedOf 29 = .ok (.iload_n 1, 1) := by decide +kernel
theorem dX7_passedOf_30 : decode cX7_passedOf 30 = .ok (.if_icmp .ne 18, 3) := by decide +kernel
theorem dX7_passedOf_33 : decode cX7_passedOf 33 = .ok (.aload_n 0, 1) := by decide +kernel
theorem dX7_passedOf_34 : decode cX7_passedOf 34 = .ok (.getfield 59, 3) := by decide +kernel
theorem dX7_passedOf_37 : decode cX7_passedOf 37 = .ok (.iload_n 3, 1) := by decide +kernel
theorem dX7_passedOf_38 : decode cX7_passedOf 38 = .ok (.caload, 1) := by decide +kernel
theorem dX7_passedOf_39 : decode cX7_passedOf 39 = .ok (.bipush 112, 2) := by decide +kernel
theorem dX7_passedOf_41 : decode cX7_passedOf 41 = .ok (.if_icmp .ne 7, 3) := by decide +kernel
theorem dX7_passedOf_44 : decode cX7_passedOf 44 = .ok (.iconst 1, 1) := by decide +kernel
theorem dX7_passedOf_45 : decode cX7_passedOf 45 = .ok (.goto 4, 3) := by decide +kernel
theorem dX7_passedOf_48 : decode cX7_passedOf 48 = .ok (.iconst 0, 1) := by decide +kernel
theorem dX7_passedOf_49 : decode cX7_passedOf 49 = .ok (.iadd, 1) := by decide +kernel
theorem dX7_passedOf_50 : decode cX7_passedOf 50 = .ok (.istore_n 2, 1) := by decide +kernel
theorem dX7_passedOf_51 : decode cX7_passedOf 51 = .ok (.iinc 3 1, 3) := by decide +kernel
theorem dX7_passedOf_54 : decode cX7_passedOf 54 = .ok (.goto (-40), 3) := by decide +kernel
theorem dX7_passedOf_57 : decode cX7_passedOf 57 = .ok (.iload_n 2, 1) := by decide +kernel
theorem dX7_passedOf_58 : decode cX7_passedOf 58 = .ok (.ireturn, 1) := by decide +kernel
set_option maxRecDepth 20000 in
theorem ggX7_spread_X7_noOrder : GoodIn wsX7_spread wsX7_noOrder := goodIn_r _ [8, 9, 10, 11, 12, 7, 13, 22, 23, 24, 25, 26, 27, 28, 29, 30, 31, 32, 33, 34, 35, 36, 37, 38, 39, 40, 41, 42, 43, 44, 45, 46, 47, 48, 49, 50] (by decide +kernel) (by decide +kernel)
set_option maxRecDepth 20000 in
theorem gX7_spread_X7_noOrder : GoodIn wsX7_spread (wsV RX7 117 RX7 yX7_noOrder wsX7_noOrder) := goodIn_app (goodIn_of _ (by decide +kernel)) ggX7_spread_X7_noOrder
set_option maxRecDepth 20000 in
theorem ggX7_spread_X7_apart : GoodIn wsX7_spread wsX7_apart := goodIn_ca (goodIn_r _ [17, 18, 19, 20, 7, 21, 22, 23, 24, 25, 26, 27, 28, 29, 30, 31, 32, 33, 34, 35, 36, 37, 38, 39, 40, 41, 42, 43, 44, 45, 46, 47, 48, 49, 50] (by decide +kernel) (by decide +kernel)) (goodIn_sub (fun _ h => List.mem_cons_of_mem _ (List.mem_append_right _ h)) (by decide +kernel))
set_option maxRecDepth 20000 in
theorem gX7_spread_X7_apart : GoodIn wsX7_spread (wsV RX7 146 RX7 yX7_apart wsX7_apart) := goodIn_app (goodIn_of _ (by decide +kernel)) ggX7_spread_X7_apart
theorem dX7_spread_0 : decode cX7_spread 0 = .ok (.aload_n 0, 1) := by decide +kernel
theorem dX7_spread_1 : decode cX7_spread 1 = .ok (.iload_n 1, 1) := by decide +kernel
theorem dX7_spread_2 : decode cX7_spread 2 = .ok (.invokevirtual 117, 3) := by decide +kernel
theorem dX7_spread_5 : decode cX7_spread 5 = .ok (.ifCond .eq 5, 3) := by decide +kernel
theorem dX7_spread_8 : decode cX7_spread 8 = .ok (.iconst 0, 1) := by decide +kernel
theorem dX7_spread_9 : decode cX7_spread 9 = .ok (.ireturn, 1) := by decide +kernel
theorem dX7_spread_10 : decode cX7_spread 10 = .ok (.iconst 0, 1) := by decide +kernel
theorem dX7_spread_11 : decode cX7_spread 11 = .ok (.istore_n 2, 1) := by decide +kernel
theorem dX7_spread_12 : decode cX7_spread 12 = .ok (.iconst 0, 1) := by decide +kernel
theorem dX7_spread_13 : decode cX7_spread 13 = .ok (.istore_n 3, 1) := by decide +kernel
theorem dX7_spread_14 : decode cX7_spread 14 = .ok (.iload_n 3, 1) := by decide +kernel
theorem dX7_spread_15 : decode cX7_spread 15 = .ok (.aload_n 0, 1) := by decide +kernel
theorem dX7_spread_16 : decode cX7_spread 16 = .ok (.getfield 92, 3) := by decide +kernel
theorem dX7_spread_19 : decode cX7_spread 19 = .ok (.if_icmp .ge 90, 3) := by decide +kernel
theorem dX7_spread_22 : decode cX7_spread 22 = .ok (.iconst 0, 1) := by decide +kernel
theorem dX7_spread_23 : decode cX7_spread 23 = .ok (.istore 4, 2) := by decide +kernel
theorem dX7_spread_25 : decode cX7_spread 25 = .ok (.iload 4, 2) := by decide +kernel
theorem dX7_spread_27 : decode cX7_spread 27 = .ok (.iload_n 3, 1) := by decide +kernel
theorem dX7_spread_28 : decode cX7_spread 28 = .ok (.if_icmp .ge 75, 3) := by decide +kernel
theorem dX7_spread_31 : decode cX7_spread 31 = .ok (.aload_n 0, 1) := by decide +kernel
theorem dX7_spread_32 : decode cX7_spread 32 = .ok (.getfield 38, 3) := by decide +kernel
theorem dX7_spread_35 : decode cX7_spread 35 = .ok (.iload_n 3, 1) := by decide +kernel
theorem dX7_spread_36 : decode cX7_spread 36 = .ok (.iaload, 1) := by decide +kernel
theorem dX7_spread_37 : decode cX7_spread 37 = .ok (.iload_n 1, 1) := by decide +kernel
theorem dX7_spread_38 : decode cX7_spread 38 = .ok (.if_icmp .ne 59, 3) := by decide +kernel
theorem dX7_spread_41 : decode cX7_spread 41 = .ok (.aload_n 0, 1) := by decide +kernel
theorem dX7_spread_42 : decode cX7_spread 42 = .ok (.getfield 38, 3) := by decide +kernel
theorem dX7_spread_45 : decode cX7_spread 45 = .ok (.iload 4, 2) := by decide +kernel
theorem dX7_spread_47 : decode cX7_spread 47 = .ok (.iaload, 1) := by decide +kernel
theorem dX7_spread_48 : decode cX7_spread 48 = .ok (.iload_n 1, 1) := by decide +kernel
theorem dX7_spread_49 : decode cX7_spread 49 = .ok (.if_icmp .ne 48, 3) := by decide +kernel
theorem dX7_spread_52 : decode cX7_spread 52 = .ok (.aload_n 0, 1) := by decide +kernel
theorem dX7_spread_53 : decode cX7_spread 53 = .ok (.getfield 59, 3) := by decide +kernel
theorem dX7_spread_56 : decode cX7_spread 56 = .ok (.iload_n 3, 1) := by decide +kernel
theorem dX7_spread_57 : decode cX7_spread 57 = .ok (.caload, 1) := by decide +kernel
theorem dX7_spread_58 : decode cX7_spread 58 = .ok (.bipush 112, 2) := by decide +kernel
theorem dX7_spread_60 : decode cX7_spread 60 = .ok (.if_icmp .ne 37, 3) := by decide +kernel
theorem dX7_spread_63 : decode cX7_spread 63 = .ok (.aload_n 0, 1) := by decide +kernel
theorem dX7_spread_64 : decode cX7_spread 64 = .ok (.getfield 59, 3) := by decide +kernel
theorem dX7_spread_67 : decode cX7_spread 67 = .ok (.iload 4, 2) := by decide +kernel
theorem dX7_spread_69 : decode cX7_spread 69 = .ok (.caload, 1) := by decide +kernel
theorem dX7_spread_70 : decode cX7_spread 70 = .ok (.bipush 112, 2) := by decide +kernel
theorem dX7_spread_72 : decode cX7_spread 72 = .ok (.if_icmp .eq 6, 3) := by decide +kernel
theorem dX7_spread_75 : decode cX7_spread 75 = .ok (.goto 22, 3) := by decide +kernel
theorem dX7_spread_78 : decode cX7_spread 78 = .ok (.aload_n 0, 1) := by decide +kernel
theorem dX7_spread_79 : decode cX7_spread 79 = .ok (.iload_n 3, 1) := by decide +kernel
theorem dX7_spread_80 : decode cX7_spread 80 = .ok (.iload 4, 2) := by decide +kernel
theorem dX7_spread_82 : decode cX7_spread 82 = .ok (.invokevirtual 146, 3) := by decide +kernel
theorem dX7_spread_85 : decode cX7_spread 85 = .ok (.iload_n 2, 1) := by decide +kernel
theorem dX7_spread_86 : decode cX7_spread 86 = .ok (.if_icmp .le 11, 3) := by decide +kernel
theorem dX7_spread_89 : decode cX7_spread 89 = .ok (.aload_n 0, 1) := by decide +kernel
theorem dX7_spread_90 : decode cX7_spread 90 = .ok (.iload_n 3, 1) := by decide +kernel
theorem dX7_spread_91 : decode cX7_spread 91 = .ok (.iload 4, 2) := by decide +kernel
theorem dX7_spread_93 : decode cX7_spread 93 = .ok (.invokevirtual 146, 3) := by decide +kernel
theorem dX7_spread_96 : decode cX7_spread 96 = .ok (.istore_n 2, 1) := by decide +kernel
theorem dX7_spread_97 : decode cX7_spread 97 = .ok (.iinc 4 1, 3) := by decide +kernel
theorem dX7_spread_100 : decode cX7_spread 100 = .ok (.goto (-75), 3) := by decide +kernel
theorem dX7_spread_103 : decode cX7_spread 103 = .ok (.iinc 3 1, 3) := by decide +kernel
theorem dX7_spread_106 : decode cX7_spread 106 = .ok (.goto (-92), 3) := by decide +kernel
theorem dX7_spread_109 : decode cX7_spread 109 = .ok (.iload_n 2, 1) := by decide +kernel
theorem dX7_spread_110 : decode cX7_spread 110 = .ok (.ireturn, 1) := by decide +kernel
theorem dX7_late_0 : decode cX7_late 0 = .ok (.iconst 0, 1) := by decide +kernel
theorem dX7_late_1 : decode cX7_late 1 = .ok (.istore_n 2, 1) := by decide +kernel
theorem dX7_late_2 : decode cX7_late 2 = .ok (.iconst 0, 1) := by decide +kernel
theorem dX7_late_3 : decode cX7_late 3 = .ok (.istore_n 3, 1) := by decide +kernel
theorem dX7_late_4 : decode cX7_late 4 = .ok (.iload_n 3, 1) := by decide +kernel
theorem dX7_late_5 : decode cX7_late 5 = .ok (.aload_n 0, 1) := by decide +kernel
theorem dX7_late_6 : decode cX7_late 6 = .ok (.getfield 92, 3) := by decide +kernel
theorem dX7_late_9 : decode cX7_late 9 = .ok (.if_icmp .ge 47, 3) := by decide +kernel
theorem dX7_late_12 : decode cX7_late 12 = .ok (.aload_n 0, 1) := by decide +kernel
theorem dX7_late_13 : decode cX7_late 13 = .ok (.getfield 38, 3) := by decide +kernel
theorem dX7_late_16 : decode cX7_late 16 = .ok (.iload_n 3, 1) := by decide +kernel
theorem dX7_late_17 : decode cX7_late 17 = .ok (.iaload, 1) := by decide +kernel
theorem dX7_late_18 : decode cX7_late 18 = .ok (.iload_n 1, 1) := by decide +kernel
theorem dX7_late_19 : decode cX7_late 19 = .ok (.if_icmp .ne 31, 3) := by decide +kernel
theorem dX7_late_22 : decode cX7_late 22 = .ok (.aload_n 0, 1) := by decide +kernel
theorem dX7_late_23 : decode cX7_late 23 = .ok (.getfield 59, 3) := by decide +kernel
theorem dX7_late_26 : decode cX7_late 26 = .ok (.iload_n 3, 1) := by decide +kernel
theorem dX7_late_27 : decode cX7_late 27 = .ok (.caload, 1) := by decide +kernel
theorem dX7_late_28 : decode cX7_late 28 = .ok (.bipush 119, 2) := by decide +kernel
theorem dX7_late_30 : decode cX7_late 30 = .ok (.if_icmp .eq 20, 3) := by decide +kernel
theorem dX7_late_33 : decode cX7_late 33 = .ok (.aload_n 0, 1) := by decide +kernel
theorem dX7_late_34 : decode cX7_late 34 = .ok (.getfield 50, 3) := by decide +kernel
theorem dX7_late_37 : decode cX7_late 37 = .ok (.iload_n 3, 1) := by decide +kernel
theorem dX7_late_38 : decode cX7_late 38 = .ok (.iaload, 1) := by decide +kernel
theorem dX7_late_39 : decode cX7_late 39 = .ok (.iload_n 2, 1) := by decide +kernel
theorem dX7_late_40 : decode cX7_late 40 = .ok (.if_icmp .le 10, 3) := by decide +kernel
theorem dX7_late_43 : decode cX7_late 43 = .ok (.aload_n 0, 1) := by decide +kernel
theorem dX7_late_44 : decode cX7_late 44 = .ok (.getfield 50, 3) := by decide +kernel
theorem dX7_late_47 : decode cX7_late 47 = .ok (.iload_n 3, 1) := by decide +kernel
theorem dX7_late_48 : decode cX7_late 48 = .ok (.iaload, 1) := by decide +kernel
theorem dX7_late_49 : decode cX7_late 49 = .ok (.istore_n 2, 1) := by decide +kernel
theorem dX7_late_50 : decode cX7_late 50 = .ok (.iinc 3 1, 3) := by decide +kernel
theorem dX7_late_53 : decode cX7_late 53 = .ok (.goto (-49), 3) := by decide +kernel
theorem dX7_late_56 : decode cX7_late 56 = .ok (.iload_n 2, 1) := by decide +kernel
theorem dX7_late_57 : decode cX7_late 57 = .ok (.bipush 24, 2) := by decide +kernel
theorem dX7_late_59 : decode cX7_late 59 = .ok (.idiv, 1) := by decide +kernel
theorem dX7_late_60 : decode cX7_late 60 = .ok (.aload_n 0, 1) := by decide +kernel
theorem dX7_late_61 : decode cX7_late 61 = .ok (.getfield 32, 3) := by decide +kernel
theorem dX7_late_64 : decode cX7_late 64 = .ok (.iload_n 1, 1) := by decide +kernel
theorem dX7_late_65 : decode cX7_late 65 = .ok (.iaload, 1) := by decide +kernel
theorem dX7_late_66 : decode cX7_late 66 = .ok (.if_icmp .le 17, 3) := by decide +kernel
theorem dX7_late_69 : decode cX7_late 69 = .ok (.iload_n 2, 1) := by decide +kernel
theorem dX7_late_70 : decode cX7_late 70 = .ok (.bipush 24, 2) := by decide +kernel
theorem dX7_late_72 : decode cX7_late 72 = .ok (.idiv, 1) := by decide +kernel
theorem dX7_late_73 : decode cX7_late 73 = .ok (.aload_n 0, 1) := by decide +kernel
theorem dX7_late_74 : decode cX7_late 74 = .ok (.getfield 32, 3) := by decide +kernel
theorem dX7_late_77 : decode cX7_late 77 = .ok (.iload_n 1, 1) := by decide +kernel
theorem dX7_late_78 : decode cX7_late 78 = .ok (.iaload, 1) := by decide +kernel
theorem dX7_late_79 : decode cX7_late 79 = .ok (.isub, 1) := by decide +kernel
theorem dX7_late_80 : decode cX7_late 80 = .ok (.goto 4, 3) := by decide +kernel
theorem dX7_late_83 : decode cX7_late 83 = .ok (.iconst 0, 1) := by decide +kernel
theorem dX7_late_84 : decode cX7_late 84 = .ok (.ireturn, 1) := by decide +kernel
set_option maxRecDepth 20000 in
theorem ggX7_lateBy_X7_noOrder : GoodIn wsX7_lateBy wsX7_noOrder := goodIn_r _ [5, 6, 7, 8, 9, 4, 10, 20, 21, 22, 23, 24, 25, 26, 27, 28, 29, 30, 31, 32, 33, 34, 35, 36, 37, 38, 39, 40, 41, 42, 43, 44, 45, 46, 47, 48] (by decide +kernel) (by decide +kernel)
set_option maxRecDepth 20000 in
theorem gX7_lateBy_X7_noOrder : GoodIn wsX7_lateBy (wsV RX7 117 RX7 yX7_noOrder wsX7_noOrder) := goodIn_app (goodIn_of _ (by decide +kernel)) ggX7_lateBy_X7_noOrder
set_option maxRecDepth 20000 in
theorem ggX7_lateBy_X7_late : GoodIn wsX7_lateBy wsX7_late := goodIn_ca (goodIn_r _ [14, 15, 16, 17, 18, 19, 20, 21, 22, 23, 24, 25, 26, 27, 28, 29, 30, 31, 32, 33, 34, 35, 36, 37, 38, 39, 40, 41, 42, 43, 44, 45, 46, 47, 48] (by decide +kernel) (by decide +kernel)) (goodIn_sub (fun _ h => List.mem_cons_of_mem _ (List.mem_append_right _ h)) (by decide +kernel))
set_option maxRecDepth 20000 in
theorem gX7_lateBy_X7_late : GoodIn wsX7_lateBy (wsV RX7 190 RX7 yX7_late wsX7_late) := goodIn_app (goodIn_of _ (by decide +kernel)) ggX7_lateBy_X7_late
theorem dX7_lateBy_0 : decode cX7_lateBy 0 = .ok (.aload_n 0, 1) := by decide +kernel
theorem dX7_lateBy_1 : decode cX7_lateBy 1 = .ok (.iload_n 1, 1) := by decide +kernel
theorem dX7_lateBy_2 : decode cX7_lateBy 2 = .ok (.invokevirtual 117, 3) := by decide +kernel
theorem dX7_lateBy_5 : decode cX7_lateBy 5 = .ok (.ifCond .eq 7, 3) := by decide +kernel
theorem dX7_lateBy_8 : decode cX7_lateBy 8 = .ok (.iconst 0, 1) := by decide +kernel
theorem dX7_lateBy_9 : decode cX7_lateBy 9 = .ok (.goto 8, 3) := by decide +kernel
theorem dX7_lateBy_12 : decode cX7_lateBy 12 = .ok (.aload_n 0, 1) := by decide +kernel
theorem dX7_lateBy_13 : decode cX7_lateBy 13 = .ok (.iload_n 1, 1) := by decide +kernel
theorem dX7_lateBy_14 : decode cX7_lateBy 14 = .ok (.invokevirtual 190, 3) := by decide +kernel
theorem dX7_lateBy_17 : decode cX7_lateBy 17 = .ok (.ireturn, 1) := by decide +kernel
set_option maxRecDepth 20000 in
theorem ggX7_worth_X7_late : GoodIn wsX7_worth wsX7_late := goodIn_ca (goodIn_r _ [10, 1, 2, 3, 11, 12, 13, 14, 15, 16, 17, 18, 19, 20, 21, 22, 23, 24, 25, 26, 27, 28, 29, 30, 31, 32, 33, 34, 35, 36, 37, 38, 39, 40, 41] (by decide +kernel) (by decide +kernel)) (goodIn_sub (fun _ h => List.mem_cons_of_mem _ (List.mem_append_right _ h)) (by decide +kernel))
set_option maxRecDepth 20000 in
theorem gX7_worth_X7_late : GoodIn wsX7_worth (wsV RX7 190 RX7 yX7_late wsX7_late) := goodIn_app (goodIn_of _ (by decide +kernel)) ggX7_worth_X7_late
theorem dX7_worth_0 : decode cX7_worth 0 = .ok (.iconst 0, 1) := by decide +kernel
theorem dX7_worth_1 : decode cX7_worth 1 = .ok (.istore_n 2, 1) := by decide +kernel
theorem dX7_worth_2 : decode cX7_worth 2 = .ok (.iconst 0, 1) := by decide +kernel
theorem dX7_worth_3 : decode cX7_worth 3 = .ok (.istore_n 3, 1) := by decide +kernel
theorem dX7_worth_4 : decode cX7_worth 4 = .ok (.iload_n 3, 1) := by decide +kernel
theorem dX7_worth_5 : decode cX7_worth 5 = .ok (.aload_n 0, 1) := by decide +kernel
theorem dX7_worth_6 : decode cX7_worth 6 = .ok (.getfield 92, 3) := by decide +kernel
theorem dX7_worth_9 : decode cX7_worth 9 = .ok (.if_icmp .ge 50, 3) := by decide +kernel
theorem dX7_worth_12 : decode cX7_worth 12 = .ok (.iload_n 2, 1) := by decide +kernel
theorem dX7_worth_13 : decode cX7_worth 13 = .ok (.aload_n 0, 1) := by decide +kernel
theorem dX7_worth_14 : decode cX7_worth 14 = .ok (.getfield 38, 3) := by decide +kernel
theorem dX7_worth_17 : decode cX7_worth 17 = .ok (.iload_n 3, 1) := by decide +kernel
theorem dX7_worth_18 : decode cX7_worth 18 = .ok (.iaload, 1) := by decide +kernel
theorem dX7_worth_19 : decode cX7_worth 19 = .ok (.iload_n 1, 1) := by decide +kernel
theorem dX7_worth_20 : decode cX7_worth 20 = .ok (.if_icmp .ne 30, 3) := by decide +kernel
theorem dX7_worth_23 : decode cX7_worth 23 = .ok (.aload_n 0, 1) := by decide +kernel
theorem dX7_worth_24 : decode cX7_worth 24 = .ok (.getfield 59, 3) := by decide +kernel
theorem dX7_worth_27 : decode cX7_worth 27 = .ok (.iload_n 3, 1) := by decide +kernel
theorem dX7_worth_28 : decode cX7_worth 28 = .ok (.caload, 1) := by decide +kernel
theorem dX7_worth_29 : decode cX7_worth 29 = .ok (.bipush 112, 2) := by decide +kernel
theorem dX7_worth_31 : decode cX7_worth 31 = .ok (.if_icmp .ne 19, 3) := by decide +kernel
theorem dX7_worth_34 : decode cX7_worth 34 = .ok (.aload_n 0, 1) := by decide +kernel
theorem dX7_worth_35 : decode cX7_worth 35 = .ok (.getfield 41, 3) := by decide +kernel
theorem dX7_worth_38 : decode cX7_worth 38 = .ok (.iload_n 3, 1) := by decide +kernel
theorem dX7_worth_39 : decode cX7_worth 39 = .ok (.iaload, 1) := by decide +kernel
theorem dX7_worth_40 : decode cX7_worth 40 = .ok (.aload_n 0, 1) := by decide +kernel
theorem dX7_worth_41 : decode cX7_worth 41 = .ok (.getfield 35, 3) := by decide +kernel
theorem dX7_worth_44 : decode cX7_worth 44 = .ok (.iload_n 1, 1) := by decide +kernel
theorem dX7_worth_45 : decode cX7_worth 45 = .ok (.iaload, 1) := by decide +kernel
theorem dX7_worth_46 : decode cX7_worth 46 = .ok (.imul, 1) := by decide +kernel
theorem dX7_worth_47 : decode cX7_worth 47 = .ok (.goto 4, 3) := by decide +kernel
theorem dX7_worth_50 : decode cX7_worth 50 = .ok (.iconst 0, 1) := by decide +kernel
theorem dX7_worth_51 : decode cX7_worth 51 = .ok (.iadd, 1) := by decide +kernel
theorem dX7_worth_52 : decode cX7_worth 52 = .ok (.istore_n 2, 1) := by decide +kernel
theorem dX7_worth_53 : decode cX7_worth 53 = .ok (.iinc 3 1, 3) := by decide +kernel
theorem dX7_worth_56 : decode cX7_worth 56 = .ok (.goto (-52), 3) := by decide +kernel
theorem dX7_worth_59 : decode cX7_worth 59 = .ok (.iload_n 2, 1) := by decide +kernel
theorem dX7_worth_60 : decode cX7_worth 60 = .ok (.bipush 100, 2) := by decide +kernel
theorem dX7_worth_62 : decode cX7_worth 62 = .ok (.aload_n 0, 1) := by decide +kernel
theorem dX7_worth_63 : decode cX7_worth 63 = .ok (.iload_n 1, 1) := by decide +kernel
theorem dX7_worth_64 : decode cX7_worth 64 = .ok (.invokevirtual 190, 3) := by decide +kernel
theorem dX7_worth_67 : decode cX7_worth 67 = .ok (.imul, 1) := by decide +kernel
theorem dX7_worth_68 : decode cX7_worth 68 = .ok (.isub, 1) := by decide +kernel
theorem dX7_worth_69 : decode cX7_worth 69 = .ok (.istore_n 2, 1) := by decide +kernel
theorem dX7_worth_70 : decode cX7_worth 70 = .ok (.iload_n 2, 1) := by decide +kernel
theorem dX7_worth_71 : decode cX7_worth 71 = .ok (.ifCond .ge 7, 3) := by decide +kernel
theorem dX7_worth_74 : decode cX7_worth 74 = .ok (.iconst 0, 1) := by decide +kernel
theorem dX7_worth_75 : decode cX7_worth 75 = .ok (.goto 4, 3) := by decide +kernel
theorem dX7_worth_78 : decode cX7_worth 78 = .ok (.iload_n 2, 1) := by decide +kernel
theorem dX7_worth_79 : decode cX7_worth 79 = .ok (.ireturn, 1) := by decide +kernel
set_option maxRecDepth 20000 in
theorem ggX7_due_X7_noOrder : GoodIn wsX7_due wsX7_noOrder := goodIn_r _ [5, 6, 7, 8, 9, 4, 10, 26, 27, 28, 29, 30, 31, 32, 33, 34, 35, 36, 37, 38, 39, 40, 41, 42, 43, 44, 45, 46, 47, 48, 49, 50, 51, 52, 53, 54] (by decide +kernel) (by decide +kernel)
set_option maxRecDepth 20000 in
theorem gX7_due_X7_noOrder : GoodIn wsX7_due (wsV RX7 117 RX7 yX7_noOrder wsX7_noOrder) := goodIn_app (goodIn_of _ (by decide +kernel)) ggX7_due_X7_noOrder
set_option maxRecDepth 20000 in
theorem ggX7_due_X7_worth : GoodIn wsX7_due wsX7_worth := goodIn_ca (goodIn_r _ [14, 15, 16, 17, 18, 19, 20, 21, 22, 4, 23, 24, 25, 26, 27, 28, 29, 30, 31, 32, 33, 34, 35, 36, 37, 38, 39, 40, 41, 42, 43, 44, 45, 46, 47, 48, 49, 50, 51, 52, 53, 54] (by decide +kernel) (by decide +kernel)) (goodIn_sub (fun _ h => List.mem_cons_of_mem _ (List.mem_append_right _ h)) (by decide +kernel))
set_option maxRecDepth 20000 in
theorem gX7_due_X7_worth : GoodIn wsX7_due (wsV RX7 193 RX7 yX7_worth wsX7_worth) := goodIn_app (goodIn_of _ (by decide +kernel)) ggX7_due_X7_worth
theorem dX7_due_0 : decode cX7_due 0 = .ok (.aload_n 0, 1) := by decide +kernel
theorem dX7_due_1 : decode cX7_due 1 = .ok (.iload_n 1, 1) := by decide +kernel
theorem dX7_due_2 : decode cX7_due 2 = .ok (.invokevirtual 117, 3) := by decide +kernel
theorem dX7_due_5 : decode cX7_due 5 = .ok (.ifCond .eq 7, 3) := by decide +kernel
theorem dX7_due_8 : decode cX7_due 8 = .ok (.iconst 0, 1) := by decide +kernel
theorem dX7_due_9 : decode cX7_due 9 = .ok (.goto 8, 3) := by decide +kernel
theorem dX7_due_12 : decode cX7_due 12 = .ok (.aload_n 0, 1) := by decide +kernel
theorem dX7_due_13 : decode cX7_due 13 = .ok (.iload_n 1, 1) := by decide +kernel
theorem dX7_due_14 : decode cX7_due 14 = .ok (.invokevirtual 193, 3) := by decide +kernel
theorem dX7_due_17 : decode cX7_due 17 = .ok (.ireturn, 1) := by decide +kernel
set_option maxRecDepth 20000 in
theorem ggX7_dues_X7_isIn : GoodIn wsX7_dues wsX7_isIn := goodIn_r _ [7] (by decide +kernel) (by decide +kernel)
set_option maxRecDepth 20000 in
theorem gX7_dues_X7_isIn : GoodIn wsX7_dues (va_wsS RX7 88 yX7_isIn wsX7_isIn) := goodIn_app (goodIn_of _ (by decide +kernel)) ggX7_dues_X7_isIn
set_option maxRecDepth 20000 in
theorem ggX7_dues_X7_worth : GoodIn wsX7_dues wsX7_worth := goodIn_ca (goodIn_r _ [11, 12, 13, 14, 15, 16, 17, 18, 19, 6, 20, 21, 22, 23, 24, 25, 26, 27, 28, 29, 30, 31, 32, 33, 34, 35, 36, 37, 38, 39, 40, 41, 42, 43, 44, 45, 46, 47, 48, 49, 50, 51] (by decide +kernel) (by decide +kernel)) (goodIn_sub (fun _ h => List.mem_cons_of_mem _ (List.mem_append_right _ h)) (by decide +kernel))
set_option maxRecDepth 20000 in
theorem gX7_dues_X7_worth : GoodIn wsX7_dues (wsV RX7 193 RX7 yX7_worth wsX7_worth) := goodIn_app (goodIn_of _ (by decide +kernel)) ggX7_dues_X7_worth
theorem dX7_dues_0 : decode cX7_dues 0 = .ok (.aload_n 0, 1) := by decide +kernel
theorem dX7_dues_1 : decode cX7_dues 1 = .ok (.iload_n 1, 1) := by decide +kernel
theorem dX7_dues_2 : decode cX7_dues 2 = .ok (.iconst 0, 1) := by decide +kernel
theorem dX7_dues_3 : decode cX7_dues 3 = .ok (.iconst 3, 1) := by decide +kernel
theorem dX7_dues_4 : decode cX7_dues 4 = .ok (.invokestatic 88, 3) := by decide +kernel
theorem dX7_dues_7 : decode cX7_dues 7 = .ok (.ifCond .eq 7, 3) := by decide +kernel
theorem dX7_dues_10 : decode cX7_dues 10 = .ok (.iconst 0, 1) := by decide +kernel
theorem dX7_dues_11 : decode cX7_dues 11 = .ok (.goto 4, 3) := by decide +kernel
theorem dX7_dues_14 : decode cX7_dues 14 = .ok (.iconst 1, 1) := by decide +kernel
theorem dX7_dues_15 : decode cX7_dues 15 = .ok (.putfield 84, 3) := by decide +kernel
theorem dX7_dues_18 : decode cX7_dues 18 = .ok (.aload_n 0, 1) := by decide +kernel
theorem dX7_dues_19 : decode cX7_dues 19 = .ok (.getfield 84, 3) := by decide +kernel
theorem dX7_dues_22 : decode cX7_dues 22 = .ok (.ifCond .eq 5, 3) := by decide +kernel
theorem dX7_dues_25 : decode cX7_dues 25 = .ok (.lconst 0, 1) := by decide +kernel
theorem dX7_dues_26 : decode cX7_dues 26 = .ok (.lreturn, 1) := by decide +kernel
theorem dX7_dues_27 : decode cX7_dues 27 = .ok (.lconst 0, 1) := by decide +kernel
theorem dX7_dues_28 : decode cX7_dues 28 = .ok (.lstore_n 2, 1) := by decide +kernel
theorem dX7_dues_29 : decode cX7_dues 29 = .ok (.iconst 0, 1) := by decide +kernel
theorem dX7_dues_30 : decode cX7_dues 30 = .ok (.istore 4, 2) := by decide +kernel
theorem dX7_dues_32 : decode cX7_dues 32 = .ok (.iload 4, 2) := by decide +kernel
theorem dX7_dues_34 : decode cX7_dues 34 = .ok (.aload_n 0, 1) := by decide +kernel
theorem dX7_dues_35 : decode cX7_dues 35 = .ok (.getfield 98, 3) := by decide +kernel
theorem dX7_dues_38 : decode cX7_dues 38 = .ok (.if_icmp .ge 34, 3) := by decide +kernel
theorem dX7_dues_41 : decode cX7_dues 41 = .ok (.lload_n 2, 1) := by decide +kernel
theorem dX7_dues_42 : decode cX7_dues 42 = .ok (.aload_n 0, 1) := by decide +kernel
theorem dX7_dues_43 : decode cX7_dues 43 = .ok (.getfield 23, 3) := by decide +kernel
theorem dX7_dues_46 : decode cX7_dues 46 = .ok (.iload 4, 2) := by decide +kernel
theorem dX7_dues_48 : decode cX7_dues 48 = .ok (.iaload, 1) := by decide +kernel
theorem dX7_dues_49 : decode cX7_dues 49 = .ok (.iload_n 1, 1) := by decide +kernel
theorem dX7_dues_50 : decode cX7_dues 50 = .ok (.if_icmp .ne 13, 3) := by decide +kernel
theorem dX7_dues_53 : decode cX7_dues 53 = .ok (.aload_n 0, 1) := by decide +kernel
theorem dX7_dues_54 : decode cX7_dues 54 = .ok (.iload 4, 2) := by decide +kernel
theorem dX7_dues_56 : decode cX7_dues 56 = .ok (.invokevirtual 193, 3) := by decide +kernel
theorem dX7_dues_59 : decode cX7_dues 59 = .ok (.i2l, 1) := by decide +kernel
theorem dX7_dues_60 : decode cX7_dues 60 = .ok (.goto 4, 3) := by decide +kernel
theorem dX7_dues_63 : decode cX7_dues 63 = .ok (.lconst 0, 1) := by decide +kernel
theorem dX7_dues_64 : decode cX7_dues 64 = .ok (.ladd, 1) := by decide +kernel
theorem dX7_dues_65 : decode cX7_dues 65 = .ok (.lstore_n 2, 1) := by decide +kernel
theorem dX7_dues_66 : decode cX7_dues 66 = .ok (.iinc 4 1, 3) := by decide +kernel
theorem dX7_dues_69 : decode cX7_dues 69 = .ok (.goto (-37), 3) := by decide +kernel
theorem dX7_dues_72 : decode cX7_dues 72 = .ok (.lload_n 2, 1) := by decide +kernel
theorem dX7_dues_73 : decode cX7_dues 73 = .ok (.lreturn, 1) := by decide +kernel
set_option maxRecDepth 20000 in
theorem ggX7_used_X7_noDye : GoodIn wsX7_used wsX7_noDye := goodIn_r _ [6, 7, 8, 9, 5, 10, 11, 12, 13, 14, 15, 16, 17, 18, 19, 20, 21, 22, 23, 24, 25, 26, 27, 28, 29, 30, 31, 32, 33, 34, 35, 36, 37, 38, 39] (by decide +kernel) (by decide +kernel)
set_option maxRecDepth 20000 in
theorem gX7_used_X7_noDye : GoodIn wsX7_used (wsV RX7 113 RX7 yX7_noDye wsX7_noDye) := goodIn_app (goodIn_of _ (by decide +kernel)) ggX7_used_X7_noDye
theorem dX7_used_0 : decode cX7_used 0 = .ok (.aload_n 0, 1) := by decide +kernel
theorem dX7_used_1 : decode cX7_used 1 = .ok (.iload_n 1, 1) := by decide +kernel
theorem dX7_used_2 : decode cX7_used 2 = .ok (.invokevirtual 113, 3) := by decide +kernel
theorem dX7_used_5 : decode cX7_used 5 = .ok (.ifCond .eq 7, 3) := by decide +kernel
theorem dX7_used_8 : decode cX7_used 8 = .ok (.lconst 0, 1) := by decide +kernel
theorem dX7_used_9 : decode cX7_used 9 = .ok (.goto 9, 3) := by decide +kernel
theorem dX7_used_12 : decode cX7_used 12 = .ok (.aload_n 0, 1) := by decide +kernel
theorem dX7_used_13 : decode cX7_used 13 = .ok (.getfield 19, 3) := by decide +kernel
theorem dX7_used_16 : decode cX7_used 16 = .ok (.iload_n 1, 1) := by decide +kernel
theorem dX7_used_17 : decode cX7_used 17 = .ok (.laload, 1) := by decide +kernel
theorem dX7_used_18 : decode cX7_used 18 = .ok (.lreturn, 1) := by decide +kernel
theorem dX7_passedShare_0 : decode cX7_passedShare 0 = .ok (.iconst 0, 1) := by decide +kernel
theorem dX7_passedShare_1 : decode cX7_passedShare 1 = .ok (.istore_n 1, 1) := by decide +kernel
theorem dX7_passedShare_2 : decode cX7_passedShare 2 = .ok (.iconst 0, 1) := by decide +kernel
theorem dX7_passedShare_3 : decode cX7_passedShare 3 = .ok (.istore_n 2, 1) := by decide +kernel
theorem dX7_passedShare_4 : decode cX7_passedShare 4 = .ok (.iconst 0, 1) := by decide +kernel
theorem dX7_passedShare_5 : decode cX7_passedShare 5 = .ok (.istore_n 3, 1) := by decide +kernel
theorem dX7_passedShare_6 : decode cX7_passedShare 6 = .ok (.iload_n 3, 1) := by decide +kernel
theorem dX7_passedShare_7 : decode cX7_passedShare 7 = .ok (.aload_n 0, 1) := by decide +kernel
theorem dX7_passedShare_8 : decode cX7_passedShare 8 = .ok (.getfield 92, 3) := by decide +kernel
theorem dX7_passedShare_11 : decode cX7_passedShare 11 = .ok (.if_icmp .ge 47, 3) := by decide +kernel
theorem dX7_passedShare_14 : decode cX7_passedShare 14 = .ok (.iload_n 1, 1) := by decide +kernel
theorem dX7_passedShare_15 : decode cX7_passedShare 15 = .ok (.aload_n 0, 1) := by decide +kernel
theorem dX7_passedShare_16 : decode cX7_passedShare 16 = .ok (.getfield 59, 3) := by decide +kernel
theorem dX7_passedShare_19 : decode cX7_passedShare 19 = .ok (.iload_n 3, 1) := by decide +kernel
theorem dX7_passedShare_20 : decode cX7_passedShare 20 = .ok (.caload, 1) := by decide +kernel
theorem dX7_passedShare_21 : decode cX7_passedShare 21 = .ok (.bipush 112, 2) := by decide +kernel
theorem dX7_passedShare_23 : decode cX7_passedShare 23 = .ok (.if_icmp .ne 7, 3) := by decide +kernel
theorem dX7_passedShare_26 : decode cX7_passedShare 26 = .ok (.iconst 1, 1) := by decide +kernel
theorem dX7_passedShare_27 : decode cX7_passedShare 27 = .ok (.goto 4, 3) := by decide +kernel
theorem dX7_passedShare_30 : decode cX7_passedShare 30 = .ok (.iconst 0, 1) := by decide +kernel
theorem dX7_passedShare_31 : decode cX7_passedShare 31 = .ok (.iadd, 1) := by decide +kernel
theorem dX7_passedShare_32 : decode cX7_passedShare 32 = .ok (.istore_n 1, 1) := by decide +kernel
theorem dX7_passedShare_33 : decode cX7_passedShare 33 = .ok (.iload_n 2, 1) := by decide +kernel
theorem dX7_passedShare_34 : decode cX7_passedShare 34 = .ok (.aload_n 0, 1) := by decide +kernel
theorem dX7_passedShare_35 : decode cX7_passedShare 35 = .ok (.getfield 59, 3) := by decide +kernel
theorem dX7_passedShare_38 : decode cX7_passedShare 38 = .ok (.iload_n 3, 1) := by decide +kernel
theorem dX7_passedShare_39 : decode cX7_passedShare 39 = .ok (.caload, 1) := by decide +kernel
theorem dX7_passedShare_40 : decode cX7_passedShare 40 = .ok (.bipush 120, 2) := by decide +kernel
theorem dX7_passedShare_42 : decode cX7_passedShare 42 = .ok (.if_icmp .ne 7, 3) := by decide +kernel
theorem dX7_passedShare_45 : decode cX7_passedShare 45 = .ok (.iconst 1, 1) := by decide +kernel
theorem dX7_passedShare_46 : decode cX7_passedShare 46 = .ok (.goto 4, 3) := by decide +kernel
theorem dX7_passedShare_49 : decode cX7_passedShare 49 = .ok (.iconst 0, 1) := by decide +kernel
theorem dX7_passedShare_50 : decode cX7_passedShare 50 = .ok (.iadd, 1) := by decide +kernel
theorem dX7_passedShare_51 : decode cX7_passedShare 51 = .ok (.istore_n 2, 1) := by decide +kernel
theorem dX7_passedShare_52 : decode cX7_passedShare 52 = .ok (.iinc 3 1, 3) := by decide +kernel
theorem dX7_passedShare_55 : decode cX7_passedShare 55 = .ok (.goto (-49), 3) := by decide +kernel
theorem dX7_passedShare_58 : decode cX7_passedShare 58 = .ok (.aload_n 0, 1) := by decide +kernel
theorem dX7_passedShare_59 : decode cX7_passedShare 59 = .ok (.iload_n 1, 1) := by decide +kernel
theorem dX7_passedShare_60 : decode cX7_passedShare 60 = .ok (.iload_n 2, 1) := by decide +kernel
theorem dX7_passedShare_61 : decode cX7_passedShare 61 = .ok (.iadd, 1) := by decide +kernel
theorem dX7_passedShare_62 : decode cX7_passedShare 62 = .ok (.ifCond .ne 7, 3) := by decide +kernel
theorem dX7_passedShare_65 : decode cX7_passedShare 65 = .ok (.iconst 1, 1) := by decide +kernel
theorem dX7_passedShare_66 : decode cX7_passedShare 66 = .ok (.goto 4, 3) := by decide +kernel
theorem dX7_passedShare_69 : decode cX7_passedShare 69 = .ok (.iconst 0, 1) := by decide +kernel
theorem dX7_passedShare_70 : decode cX7_passedShare 70 = .ok (.putfield 84, 3) := by decide +kernel
theorem dX7_passedShare_73 : decode cX7_passedShare 73 = .ok (.aload_n 0, 1) := by decide +kernel
theorem dX7_passedShare_74 : decode cX7_passedShare 74 = .ok (.getfield 84, 3) := by decide +kernel
theorem dX7_passedShare_77 : decode cX7_passedShare 77 = .ok (.ifCond .eq 7, 3) := by decide +kernel
theorem dX7_passedShare_80 : decode cX7_passedShare 80 = .ok (.fconst 0, 1) := by decide +kernel
theorem dX7_passedShare_81 : decode cX7_passedShare 81 = .ok (.goto 10, 3) := by decide +kernel
theorem dX7_passedShare_84 : decode cX7_passedShare 84 = .ok (.iload_n 1, 1) := by decide +kernel
theorem dX7_passedShare_85 : decode cX7_passedShare 85 = .ok (.i2f, 1) := by decide +kernel
theorem dX7_passedShare_86 : decode cX7_passedShare 86 = .ok (.iload_n 1, 1) := by decide +kernel
theorem dX7_passedShare_87 : decode cX7_passedShare 87 = .ok (.iload_n 2, 1) := by decide +kernel
theorem dX7_passedShare_88 : decode cX7_passedShare 88 = .ok (.iadd, 1) := by decide +kernel
theorem dX7_passedShare_89 : decode cX7_passedShare 89 = .ok (.i2f, 1) := by decide +kernel
theorem dX7_passedShare_90 : decode cX7_passedShare 90 = .ok (.fdiv, 1) := by decide +kernel
theorem dX7_passedShare_91 : decode cX7_passedShare 91 = .ok (.freturn, 1) := by decide +kernel
set_option maxRecDepth 20000 in
theorem ggX7_meanOff_X7_off : GoodIn wsX7_meanOff wsX7_off := goodIn_ca (goodIn_r _ [8, 9, 10, 11, 12, 13, 14, 7, 15, 16, 17, 18, 19, 20, 21, 22, 23, 24, 25, 26, 27, 28, 29, 30, 31, 32, 33, 34, 35, 36, 37, 38, 39, 40, 41, 42, 43, 44] (by decide +kernel) (by decide +kernel)) (goodIn_sub (fun _ h => List.mem_cons_of_mem _ (List.mem_append_right _ h)) (by decide +kernel))
set_option maxRecDepth 20000 in
theorem gX7_meanOff_X7_off : GoodIn wsX7_meanOff (wsV RX7 143 RX7 yX7_off wsX7_off) := goodIn_app (goodIn_of _ (by decide +kernel)) ggX7_meanOff_X7_off
theorem dX7_meanOff_0 : decode cX7_meanOff 0 = .ok (.iconst 0, 1) := by decide +kernel
theorem dX7_meanOff_1 : decode cX7_meanOff 1 = .ok (.istore_n 1, 1) := by decide +kernel
theorem dX7_meanOff_2 : decode cX7_meanOff 2 = .ok (.iconst 0, 1) := by decide +kernel
theorem dX7_meanOff_3 : decode cX7_meanOff 3 = .ok (.istore_n 2, 1) := by decide +kernel
theorem dX7_meanOff_4 : decode cX7_meanOff 4 = .ok (.iconst 0, 1) := by decide +kernel
theorem dX7_meanOff_5 : decode cX7_meanOff 5 = .ok (.istore_n 3, 1) := by decide +kernel
theorem dX7_meanOff_6 : decode cX7_meanOff 6 = .ok (.iload_n 3, 1) := by decide +kernel
theorem dX7_meanOff_7 : decode cX7_meanOff 7 = .ok (.aload_n 0, 1) := by decide +kernel
theorem dX7_meanOff_8 : decode cX7_meanOff 8 = .ok (.getfield 92, 3) := by decide +kernel
theorem dX7_meanOff_11 : decode cX7_meanOff 11 = .ok (.if_icmp .ge 34, 3) := by decide +kernel
theorem dX7_meanOff_14 : decode cX7_meanOff 14 = .ok (.aload_n 0, 1) := by decide +kernel
theorem dX7_meanOff_15 : decode cX7_meanOff 15 = .ok (.getfield 59, 3) := by decide +kernel
theorem dX7_meanOff_18 : decode cX7_meanOff 18 = .ok (.iload_n 3, 1) := by decide +kernel
theorem dX7_meanOff_19 : decode cX7_meanOff 19 = .ok (.caload, 1) := by decide +kernel
theorem dX7_meanOff_20 : decode cX7_meanOff 20 = .ok (.bipush 119, 2) := by decide +kernel
theorem dX7_meanOff_22 : decode cX7_meanOff 22 = .ok (.if_icmp .ne 6, 3) := by decide +kernel
theorem dX7_meanOff_25 : decode cX7_meanOff 25 = .ok (.goto 14, 3) := by decide +kernel
theorem dX7_meanOff_28 : decode cX7_meanOff 28 = .ok (.iload_n 1, 1) := by decide +kernel
theorem dX7_meanOff_29 : decode cX7_meanOff 29 = .ok (.aload_n 0, 1) := by decide +kernel
theorem dX7_meanOff_30 : decode cX7_meanOff 30 = .ok (.iload_n 3, 1) := by decide +kernel
theorem dX7_meanOff_31 : decode cX7_meanOff 31 = .ok (.invokevirtual 143, 3) := by decide +kernel
theorem dX7_meanOff_34 : decode cX7_meanOff 34 = .ok (.iadd, 1) := by decide +kernel
theorem dX7_meanOff_35 : decode cX7_meanOff 35 = .ok (.istore_n 1, 1) := by decide +kernel
theorem dX7_meanOff_36 : decode cX7_meanOff 36 = .ok (.iinc 2 1, 3) := by decide +kernel
theorem dX7_meanOff_39 : decode cX7_meanOff 39 = .ok (.iinc 3 1, 3) := by decide +kernel
theorem dX7_meanOff_42 : decode cX7_meanOff 42 = .ok (.goto (-36), 3) := by decide +kernel
theorem dX7_meanOff_45 : decode cX7_meanOff 45 = .ok (.aload_n 0, 1) := by decide +kernel
theorem dX7_meanOff_46 : decode cX7_meanOff 46 = .ok (.iload_n 2, 1) := by decide +kernel
theorem dX7_meanOff_47 : decode cX7_meanOff 47 = .ok (.ifCond .ne 7, 3) := by decide +kernel
theorem dX7_meanOff_50 : decode cX7_meanOff 50 = .ok (.iconst 1, 1) := by decide +kernel
theorem dX7_meanOff_51 : decode cX7_meanOff 51 = .ok (.goto 4, 3) := by decide +kernel
theorem dX7_meanOff_54 : decode cX7_meanOff 54 = .ok (.iconst 0, 1) := by decide +kernel
theorem dX7_meanOff_55 : decode cX7_meanOff 55 = .ok (.putfield 84, 3) := by decide +kernel
theorem dX7_meanOff_58 : decode cX7_meanOff 58 = .ok (.iload_n 2, 1) := by decide +kernel
theorem dX7_meanOff_59 : decode cX7_meanOff 59 = .ok (.ifCond .ne 7, 3) := by decide +kernel
theorem dX7_meanOff_62 : decode cX7_meanOff 62 = .ok (.dconst 0, 1) := by decide +kernel
theorem dX7_meanOff_63 : decode cX7_meanOff 63 = .ok (.goto 8, 3) := by decide +kernel
theorem dX7_meanOff_66 : decode cX7_meanOff 66 = .ok (.iload_n 1, 1) := by decide +kernel
theorem dX7_meanOff_67 : decode cX7_meanOff 67 = .ok (.i2d, 1) := by decide +kernel
theorem dX7_meanOff_68 : decode cX7_meanOff 68 = .ok (.iload_n 2, 1) := by decide +kernel
theorem dX7_meanOff_69 : decode cX7_meanOff 69 = .ok (.i2d, 1) := by decide +kernel
theorem dX7_meanOff_70 : decode cX7_meanOff 70 = .ok (.ddiv, 1) := by decide +kernel
theorem dX7_meanOff_71 : decode cX7_meanOff 71 = .ok (.dreturn, 1) := by decide +kernel
theorem dJx00060_init_a7421_0 : decode cJx00060_init_a7421 0 = .ok (.aload_n 0, 1) := by decide +kernel
theorem dJx00060_init_a7421_1 : decode cJx00060_init_a7421 1 = .ok (.aload_n 1, 1) := by decide +kernel
theorem dJx00060_init_a7421_2 : decode cJx00060_init_a7421 2 = .ok (.invokespecial 7, 3) := by decide +kernel
theorem dJx00060_init_a7421_5 : decode cJx00060_init_a7421 5 = .ok (.return_, 1) := by decide +kernel
theorem dJ9_abs_0f7a4_0 : decode cJ9_abs_0f7a4 0 = .ok (.iload_n 0, 1) := by decide +kernel
theorem dJ9_abs_0f7a4_1 : decode cJ9_abs_0f7a4 1 = .ok (.ifCond .ge 8, 3) := by decide +kernel
theorem dJ9_abs_0f7a4_4 : decode cJ9_abs_0f7a4 4 = .ok (.iload_n 0, 1) := by decide +kernel
theorem dJ9_abs_0f7a4_5 : decode cJ9_abs_0f7a4 5 = .ok (.ineg, 1) := by decide +kernel
theorem dJ9_abs_0f7a4_6 : decode cJ9_abs_0f7a4 6 = .ok (.goto 4, 3) := by decide +kernel
theorem dJ9_abs_0f7a4_9 : decode cJ9_abs_0f7a4 9 = .ok (.iload_n 0, 1) := by decide +kernel
theorem dJ9_abs_0f7a4_10 : decode cJ9_abs_0f7a4 10 = .ok (.ireturn, 1) := by decide +kernel
theorem dJ9_max_7cf53_0 : decode cJ9_max_7cf53 0 = .ok (.iload_n 0, 1) := by decide +kernel
theorem dJ9_max_7cf53_1 : decode cJ9_max_7cf53 1 = .ok (.iload_n 1, 1) := by decide +kernel
theorem dJ9_max_7cf53_2 : decode cJ9_max_7cf53 2 = .ok (.if_icmp .lt 7, 3) := by decide +kernel
theorem dJ9_max_7cf53_5 : decode cJ9_max_7cf53 5 = .ok (.iload_n 0, 1) := by decide +kernel
theorem dJ9_max_7cf53_6 : decode cJ9_max_7cf53 6 = .ok (.goto 4, 3) := by decide +kernel
theorem dJ9_max_7cf53_9 : decode cJ9_max_7cf53 9 = .ok (.iload_n 1, 1) := by decide +kernel
theorem dJ9_max_7cf53_10 : decode cJ9_max_7cf53 10 = .ok (.ireturn, 1) := by decide +kernel
theorem dJ9_min_7cf53_0 : decode cJ9_min_7cf53 0 = .ok (.iload_n 0, 1) := by decide +kernel
theorem dJ9_min_7cf53_1 : decode cJ9_min_7cf53 1 = .ok (.iload_n 1, 1) := by decide +kernel
theorem dJ9_min_7cf53_2 : decode cJ9_min_7cf53 2 = .ok (.if_icmp .gt 7, 3) := by decide +kernel
theorem dJ9_min_7cf53_5 : decode cJ9_min_7cf53 5 = .ok (.iload_n 0, 1) := by decide +kernel
theorem dJ9_min_7cf53_6 : decode cJ9_min_7cf53 6 = .ok (.goto 4, 3) := by decide +kernel
theorem dJ9_min_7cf53_9 : decode cJ9_min_7cf53 9 = .ok (.iload_n 1, 1) := by decide +kernel
theorem dJ9_min_7cf53_10 : decode cJ9_min_7cf53 10 = .ok (.ireturn, 1) := by decide +kernel
