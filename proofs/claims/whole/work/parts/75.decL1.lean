set_option maxRecDepth 20000 in
theorem ggL_addRecipe_X6_addRecipe : GoodIn wsL_addRecipe wsX6_addRecipe := goodIn_ca (goodIn_ca (goodIn_r _ [7, 8, 9, 10, 11, 12, 13, 14, 15, 16, 17, 18, 19, 6, 20, 21, 22, 23, 24, 25, 26, 27, 28, 29, 30, 31, 32, 33, 34, 35, 36, 37, 38, 39, 40, 41, 42, 43, 44, 45, 46, 47, 48, 49, 50, 51, 52, 53, 54, 55, 56, 57] (by decide +kernel) (by decide +kernel)) (goodIn_sub (fun _ h => List.mem_cons_of_mem _ (List.mem_append_left _ (List.mem_append_right _ h))) (by decide +kernel))) (goodIn_sub (fun _ h => List.mem_cons_of_mem _ (List.mem_append_right _ h)) (by decide +kernel))
set_option maxRecDepth 20000 in
theorem gL_addRecipe_X6_addRecipe : GoodIn wsL_addRecipe (wsV RL 7 RX6 yX6_addRecipe wsX6_addRecipe) := goodIn_app (goodIn_of _ (by decide +kernel)) ggL_addRecipe_X6_addRecipe
theorem dL_addRecipe_0 : decode cL_addRecipe 0 = .ok (.aload 4, 2) := by decide +kernel
theorem dL_addRecipe_2 : decode cL_addRecipe 2 = .ok (.iconst 0, 1) := by decide +kernel
theorem dL_addRecipe_3 : decode cL_addRecipe 3 = .ok (.aload_n 0, 1) := by decide +kernel
theorem dL_addRecipe_4 : decode cL_addRecipe 4 = .ok (.iload_n 1, 1) := by decide +kernel
theorem dL_addRecipe_5 : decode cL_addRecipe 5 = .ok (.iload_n 2, 1) := by decide +kernel
theorem dL_addRecipe_6 : decode cL_addRecipe 6 = .ok (.iload_n 3, 1) := by decide +kernel
theorem dL_addRecipe_7 : decode cL_addRecipe 7 = .ok (.invokevirtual 7, 3) := by decide +kernel
theorem dL_addRecipe_10 : decode cL_addRecipe 10 = .ok (.i2l, 1) := by decide +kernel
theorem dL_addRecipe_11 : decode cL_addRecipe 11 = .ok (.lastore, 1) := by decide +kernel
theorem dL_addRecipe_12 : decode cL_addRecipe 12 = .ok (.goto 11, 3) := by decide +kernel
theorem dL_addRecipe_15 : decode cL_addRecipe 15 = .ok (.astore 5, 2) := by decide +kernel
theorem dL_addRecipe_17 : decode cL_addRecipe 17 = .ok (.iconst 1, 1) := by decide +kernel
theorem dL_addRecipe_18 : decode cL_addRecipe 18 = .ok (.ireturn, 1) := by decide +kernel
theorem dL_addRecipe_19 : decode cL_addRecipe 19 = .ok (.astore 5, 2) := by decide +kernel
theorem dL_addRecipe_21 : decode cL_addRecipe 21 = .ok (.iconst 2, 1) := by decide +kernel
theorem dL_addRecipe_22 : decode cL_addRecipe 22 = .ok (.ireturn, 1) := by decide +kernel
theorem dL_addRecipe_23 : decode cL_addRecipe 23 = .ok (.iconst 0, 1) := by decide +kernel
theorem dL_addRecipe_24 : decode cL_addRecipe 24 = .ok (.ireturn, 1) := by decide +kernel
set_option maxRecDepth 20000 in
theorem ggL_setDye_X6_setDye : GoodIn wsL_setDye wsX6_setDye := goodIn_ca (goodIn_ca (goodIn_ca (goodIn_r _ [7, 8, 9, 10, 11, 6, 12, 13, 14, 15, 16, 17, 18, 19, 20, 21, 22, 23, 24, 25, 26, 27, 28, 29, 30, 31, 32, 33, 34, 35, 36] (by decide +kernel) (by decide +kernel)) (goodIn_sub (fun _ h => List.mem_cons_of_mem _ (List.mem_append_left _ (List.mem_append_left _ (List.mem_append_right _ h)))) (by decide +kernel))) (goodIn_sub (fun _ h => List.mem_cons_of_mem _ (List.mem_append_left _ (List.mem_append_right _ h))) (by decide +kernel))) (goodIn_sub (fun _ h => List.mem_cons_of_mem _ (List.mem_append_right _ h)) (by decide +kernel))
set_option maxRecDepth 20000 in
theorem gL_setDye_X6_setDye : GoodIn wsL_setDye (wsV RL 17 RX6 yX6_setDye wsX6_setDye) := goodIn_app (goodIn_of _ (by decide +kernel)) ggL_setDye_X6_setDye
theorem dL_setDye_0 : decode cL_setDye 0 = .ok (.aload 4, 2) := by decide +kernel
theorem dL_setDye_2 : decode cL_setDye 2 = .ok (.iconst 0, 1) := by decide +kernel
theorem dL_setDye_3 : decode cL_setDye 3 = .ok (.aload_n 0, 1) := by decide +kernel
theorem dL_setDye_4 : decode cL_setDye 4 = .ok (.iload_n 1, 1) := by decide +kernel
theorem dL_setDye_5 : decode cL_setDye 5 = .ok (.iload_n 2, 1) := by decide +kernel
theorem dL_setDye_6 : decode cL_setDye 6 = .ok (.iload_n 3, 1) := by decide +kernel
theorem dL_setDye_7 : decode cL_setDye 7 = .ok (.invokevirtual 17, 3) := by decide +kernel
theorem dL_setDye_10 : decode cL_setDye 10 = .ok (.i2l, 1) := by decide +kernel
theorem dL_setDye_11 : decode cL_setDye 11 = .ok (.lastore, 1) := by decide +kernel
theorem dL_setDye_12 : decode cL_setDye 12 = .ok (.goto 11, 3) := by decide +kernel
theorem dL_setDye_15 : decode cL_setDye 15 = .ok (.astore 5, 2) := by decide +kernel
theorem dL_setDye_17 : decode cL_setDye 17 = .ok (.iconst 1, 1) := by decide +kernel
theorem dL_setDye_18 : decode cL_setDye 18 = .ok (.ireturn, 1) := by decide +kernel
theorem dL_setDye_19 : decode cL_setDye 19 = .ok (.astore 5, 2) := by decide +kernel
theorem dL_setDye_21 : decode cL_setDye 21 = .ok (.iconst 2, 1) := by decide +kernel
theorem dL_setDye_22 : decode cL_setDye 22 = .ok (.ireturn, 1) := by decide +kernel
theorem dL_setDye_23 : decode cL_setDye 23 = .ok (.iconst 0, 1) := by decide +kernel
theorem dL_setDye_24 : decode cL_setDye 24 = .ok (.ireturn, 1) := by decide +kernel
set_option maxRecDepth 20000 in
theorem ggL_supply_X6_supply : GoodIn wsL_supply wsX6_supply := goodIn_ca (goodIn_ca (goodIn_ca (goodIn_r _ [7, 8, 9, 10, 11, 12, 13, 14, 6, 15, 16, 17, 18, 19, 20, 21, 22, 23, 24, 25, 26, 27, 28, 29, 30, 31] (by decide +kernel) (by decide +kernel)) (goodIn_sub (fun _ h => List.mem_cons_of_mem _ (List.mem_append_left _ (List.mem_append_left _ (List.mem_append_right _ h)))) (by decide +kernel))) (goodIn_sub (fun _ h => List.mem_cons_of_mem _ (List.mem_append_left _ (List.mem_append_right _ h))) (by decide +kernel))) (goodIn_sub (fun _ h => List.mem_cons_of_mem _ (List.mem_append_right _ h)) (by decide +kernel))
set_option maxRecDepth 20000 in
theorem gL_supply_X6_supply : GoodIn wsL_supply (wsV RL 22 RX6 yX6_supply wsX6_supply) := goodIn_app (goodIn_of _ (by decide +kernel)) ggL_supply_X6_supply
theorem dL_supply_0 : decode cL_supply 0 = .ok (.aload_n 3, 1) := by decide +kernel
theorem dL_supply_1 : decode cL_supply 1 = .ok (.iconst 0, 1) := by decide +kernel
theorem dL_supply_2 : decode cL_supply 2 = .ok (.aload_n 0, 1) := by decide +kernel
theorem dL_supply_3 : decode cL_supply 3 = .ok (.iload_n 1, 1) := by decide +kernel
theorem dL_supply_4 : decode cL_supply 4 = .ok (.iload_n 2, 1) := by decide +kernel
theorem dL_supply_5 : decode cL_supply 5 = .ok (.invokevirtual 22, 3) := by decide +kernel
theorem dL_supply_8 : decode cL_supply 8 = .ok (.i2l, 1) := by decide +kernel
theorem dL_supply_9 : decode cL_supply 9 = .ok (.lastore, 1) := by decide +kernel
theorem dL_supply_10 : decode cL_supply 10 = .ok (.goto 11, 3) := by decide +kernel
theorem dL_supply_13 : decode cL_supply 13 = .ok (.astore 4, 2) := by decide +kernel
theorem dL_supply_15 : decode cL_supply 15 = .ok (.iconst 1, 1) := by decide +kernel
theorem dL_supply_16 : decode cL_supply 16 = .ok (.ireturn, 1) := by decide +kernel
theorem dL_supply_17 : decode cL_supply 17 = .ok (.astore 4, 2) := by decide +kernel
theorem dL_supply_19 : decode cL_supply 19 = .ok (.iconst 2, 1) := by decide +kernel
theorem dL_supply_20 : decode cL_supply 20 = .ok (.ireturn, 1) := by decide +kernel
theorem dL_supply_21 : decode cL_supply 21 = .ok (.iconst 0, 1) := by decide +kernel
theorem dL_supply_22 : decode cL_supply 22 = .ok (.ireturn, 1) := by decide +kernel
set_option maxRecDepth 20000 in
theorem ggL_stock_X6_stock : GoodIn wsL_stock wsX6_stock := goodIn_ca (goodIn_ca (goodIn_r _ [6, 7, 8, 9, 5, 10, 11, 12, 13, 14, 15, 16, 17, 18, 19, 20, 21, 22, 23, 24, 25, 26] (by decide +kernel) (by decide +kernel)) (goodIn_sub (fun _ h => List.mem_cons_of_mem _ (List.mem_append_left _ (List.mem_append_right _ h))) (by decide +kernel))) (goodIn_sub (fun _ h => List.mem_cons_of_mem _ (List.mem_append_right _ h)) (by decide +kernel))
set_option maxRecDepth 20000 in
theorem gL_stock_X6_stock : GoodIn wsL_stock (wsV RL 26 RX6 yX6_stock wsX6_stock) := goodIn_app (goodIn_of _ (by decide +kernel)) ggL_stock_X6_stock
theorem dL_stock_0 : decode cL_stock 0 = .ok (.aload_n 2, 1) := by decide +kernel
theorem dL_stock_1 : decode cL_stock 1 = .ok (.iconst 0, 1) := by decide +kernel
theorem dL_stock_2 : decode cL_stock 2 = .ok (.aload_n 0, 1) := by decide +kernel
theorem dL_stock_3 : decode cL_stock 3 = .ok (.iload_n 1, 1) := by decide +kernel
theorem dL_stock_4 : decode cL_stock 4 = .ok (.invokevirtual 26, 3) := by decide +kernel
theorem dL_stock_7 : decode cL_stock 7 = .ok (.i2l, 1) := by decide +kernel
theorem dL_stock_8 : decode cL_stock 8 = .ok (.lastore, 1) := by decide +kernel
theorem dL_stock_9 : decode cL_stock 9 = .ok (.goto 6, 3) := by decide +kernel
theorem dL_stock_12 : decode cL_stock 12 = .ok (.astore_n 3, 1) := by decide +kernel
theorem dL_stock_13 : decode cL_stock 13 = .ok (.iconst 1, 1) := by decide +kernel
theorem dL_stock_14 : decode cL_stock 14 = .ok (.ireturn, 1) := by decide +kernel
theorem dL_stock_15 : decode cL_stock 15 = .ok (.iconst 0, 1) := by decide +kernel
theorem dL_stock_16 : decode cL_stock 16 = .ok (.ireturn, 1) := by decide +kernel
set_option maxRecDepth 20000 in
theorem ggL_addOrder_X6_addOrder : GoodIn wsL_addOrder wsX6_addOrder := goodIn_ca (goodIn_ca (goodIn_ca (goodIn_r _ [8, 9, 10, 11, 12, 13, 14, 15, 16, 17, 18, 7, 19, 20, 21, 22, 23, 24, 25, 26, 27, 28, 29, 30, 31, 32, 33, 34, 35, 36, 37, 38, 39, 40, 41, 42, 43, 44, 45, 46, 47, 48, 49, 50, 51, 52, 53, 54, 55, 56, 57] (by decide +kernel) (by decide +kernel)) (goodIn_sub (fun _ h => List.mem_cons_of_mem _ (List.mem_append_left _ (List.mem_append_left _ (List.mem_append_right _ h)))) (by decide +kernel))) (goodIn_sub (fun _ h => List.mem_cons_of_mem _ (List.mem_append_left _ (List.mem_append_right _ h))) (by decide +kernel))) (goodIn_sub (fun _ h => List.mem_cons_of_mem _ (List.mem_append_right _ h)) (by decide +kernel))
set_option maxRecDepth 20000 in
theorem gL_addOrder_X6_addOrder : GoodIn wsL_addOrder (wsV RL 30 RX6 yX6_addOrder wsX6_addOrder) := goodIn_app (goodIn_of _ (by decide +kernel)) ggL_addOrder_X6_addOrder
theorem dL_addOrder_0 : decode cL_addOrder 0 = .ok (.aload 6, 2) := by decide +kernel
theorem dL_addOrder_2 : decode cL_addOrder 2 = .ok (.iconst 0, 1) := by decide +kernel
theorem dL_addOrder_3 : decode cL_addOrder 3 = .ok (.aload_n 0, 1) := by decide +kernel
theorem dL_addOrder_4 : decode cL_addOrder 4 = .ok (.iload_n 1, 1) := by decide +kernel
theorem dL_addOrder_5 : decode cL_addOrder 5 = .ok (.iload_n 2, 1) := by decide +kernel
theorem dL_addOrder_6 : decode cL_addOrder 6 = .ok (.iload_n 3, 1) := by decide +kernel
theorem dL_addOrder_7 : decode cL_addOrder 7 = .ok (.iload 4, 2) := by decide +kernel
theorem dL_addOrder_9 : decode cL_addOrder 9 = .ok (.iload 5, 2) := by decide +kernel
theorem dL_addOrder_11 : decode cL_addOrder 11 = .ok (.invokevirtual 30, 3) := by decide +kernel
theorem dL_addOrder_14 : decode cL_addOrder 14 = .ok (.i2l, 1) := by decide +kernel
theorem dL_addOrder_15 : decode cL_addOrder 15 = .ok (.lastore, 1) := by decide +kernel
theorem dL_addOrder_16 : decode cL_addOrder 16 = .ok (.goto 15, 3) := by decide +kernel
theorem dL_addOrder_19 : decode cL_addOrder 19 = .ok (.astore 7, 2) := by decide +kernel
theorem dL_addOrder_21 : decode cL_addOrder 21 = .ok (.iconst 1, 1) := by decide +kernel
theorem dL_addOrder_22 : decode cL_addOrder 22 = .ok (.ireturn, 1) := by decide +kernel
theorem dL_addOrder_23 : decode cL_addOrder 23 = .ok (.astore 7, 2) := by decide +kernel
theorem dL_addOrder_25 : decode cL_addOrder 25 = .ok (.iconst 2, 1) := by decide +kernel
theorem dL_addOrder_26 : decode cL_addOrder 26 = .ok (.ireturn, 1) := by decide +kernel
theorem dL_addOrder_27 : decode cL_addOrder 27 = .ok (.astore 7, 2) := by decide +kernel
theorem dL_addOrder_29 : decode cL_addOrder 29 = .ok (.iconst 3, 1) := by decide +kernel
theorem dL_addOrder_30 : decode cL_addOrder 30 = .ok (.ireturn, 1) := by decide +kernel
theorem dL_addOrder_31 : decode cL_addOrder 31 = .ok (.iconst 0, 1) := by decide +kernel
theorem dL_addOrder_32 : decode cL_addOrder 32 = .ok (.ireturn, 1) := by decide +kernel
set_option maxRecDepth 20000 in
theorem ggL_addLot_X6_addLot : GoodIn wsL_addLot wsX6_addLot := goodIn_ca (goodIn_ca (goodIn_ca (goodIn_r _ [8, 9, 10, 11, 12, 13, 14, 15, 16, 17, 18, 7, 19, 20, 21, 22, 23, 24, 25, 26, 27, 28, 29, 30, 31, 32, 33, 34, 35, 36, 37, 38, 39, 40, 41, 42, 43, 44, 45, 46, 47, 48, 49, 50, 51, 52, 53, 54, 55, 56, 57, 58, 59, 60, 61, 62, 63, 64, 65, 66, 67, 68, 69, 70, 71] (by decide +kernel) (by decide +kernel)) (goodIn_sub (fun _ h => List.mem_cons_of_mem _ (List.mem_append_left _ (List.mem_append_left _ (List.mem_append_right _ h)))) (by decide +kernel))) (goodIn_sub (fun _ h => List.mem_cons_of_mem _ (List.mem_append_left _ (List.mem_append_right _ h))) (by decide +kernel))) (goodIn_sub (fun _ h => List.mem_cons_of_mem _ (List.mem_append_right _ h)) (by decide +kernel))
set_option maxRecDepth 20000 in
theorem gL_addLot_X6_addLot : GoodIn wsL_addLot (wsV RL 34 RX6 yX6_addLot wsX6_addLot) := goodIn_app (goodIn_of _ (by decide +kernel)) ggL_addLot_X6_addLot
theorem dL_addLot_0 : decode cL_addLot 0 = .ok (.aload_n 3, 1) := by decide +kernel
theorem dL_addLot_1 : decode cL_addLot 1 = .ok (.iconst 0, 1) := by decide +kernel
theorem dL_addLot_2 : decode cL_addLot 2 = .ok (.aload_n 0, 1) := by decide +kernel
theorem dL_addLot_3 : decode cL_addLot 3 = .ok (.iload_n 1, 1) := by decide +kernel
theorem dL_addLot_4 : decode cL_addLot 4 = .ok (.iload_n 2, 1) := by decide +kernel
theorem dL_addLot_5 : decode cL_addLot 5 = .ok (.invokevirtual 34, 3) := by decide +kernel
theorem dL_addLot_8 : decode cL_addLot 8 = .ok (.i2l, 1) := by decide +kernel
theorem dL_addLot_9 : decode cL_addLot 9 = .ok (.lastore, 1) := by decide +kernel
theorem dL_addLot_10 : decode cL_addLot 10 = .ok (.goto 15, 3) := by decide +kernel
theorem dL_addLot_13 : decode cL_addLot 13 = .ok (.astore 4, 2) := by decide +kernel
theorem dL_addLot_15 : decode cL_addLot 15 = .ok (.iconst 1, 1) := by decide +kernel
theorem dL_addLot_16 : decode cL_addLot 16 = .ok (.ireturn, 1) := by decide +kernel
theorem dL_addLot_17 : decode cL_addLot 17 = .ok (.astore 4, 2) := by decide +kernel
theorem dL_addLot_19 : decode cL_addLot 19 = .ok (.iconst 2, 1) := by decide +kernel
theorem dL_addLot_20 : decode cL_addLot 20 = .ok (.ireturn, 1) := by decide +kernel
theorem dL_addLot_21 : decode cL_addLot 21 = .ok (.astore 4, 2) := by decide +kernel
theorem dL_addLot_23 : decode cL_addLot 23 = .ok (.iconst 3, 1) := by decide +kernel
theorem dL_addLot_24 : decode cL_addLot 24 = .ok (.ireturn, 1) := by decide +kernel
theorem dL_addLot_25 : decode cL_addLot 25 = .ok (.iconst 0, 1) := by decide +kernel
theorem dL_addLot_26 : decode cL_addLot 26 = .ok (.ireturn, 1) := by decide +kernel
set_option maxRecDepth 20000 in
theorem ggL_addVat_X6_addVat : GoodIn wsL_addVat wsX6_addVat := goodIn_ca (goodIn_ca (goodIn_r _ [7, 8, 9, 10, 11, 12, 13, 14, 15, 16, 6, 17, 18, 19, 20, 21, 22, 23, 24, 25, 26, 27, 28, 29, 30, 31, 32, 33, 34, 35, 36, 37, 38, 39, 40, 41, 42, 43, 44, 45, 46] (by decide +kernel) (by decide +kernel)) (goodIn_sub (fun _ h => List.mem_cons_of_mem _ (List.mem_append_left _ (List.mem_append_right _ h))) (by decide +kernel))) (goodIn_sub (fun _ h => List.mem_cons_of_mem _ (List.mem_append_right _ h)) (by decide +kernel))
set_option maxRecDepth 20000 in
theorem gL_addVat_X6_addVat : GoodIn wsL_addVat (wsV RL 37 RX6 yX6_addVat wsX6_addVat) := goodIn_app (goodIn_of _ (by decide +kernel)) ggL_addVat_X6_addVat
theorem dL_addVat_0 : decode cL_addVat 0 = .ok (.aload_n 2, 1) := by decide +kernel
theorem dL_addVat_1 : decode cL_addVat 1 = .ok (.iconst 0, 1) := by decide +kernel
theorem dL_addVat_2 : decode cL_addVat 2 = .ok (.aload_n 0, 1) := by decide +kernel
theorem dL_addVat_3 : decode cL_addVat 3 = .ok (.iload_n 1, 1) := by decide +kernel
theorem dL_addVat_4 : decode cL_addVat 4 = .ok (.invokevirtual 37, 3) := by decide +kernel
theorem dL_addVat_7 : decode cL_addVat 7 = .ok (.i2l, 1) := by decide +kernel
theorem dL_addVat_8 : decode cL_addVat 8 = .ok (.lastore, 1) := by decide +kernel
theorem dL_addVat_9 : decode cL_addVat 9 = .ok (.goto 9, 3) := by decide +kernel
theorem dL_addVat_12 : decode cL_addVat 12 = .ok (.astore_n 3, 1) := by decide +kernel
theorem dL_addVat_13 : decode cL_addVat 13 = .ok (.iconst 1, 1) := by decide +kernel
theorem dL_addVat_14 : decode cL_addVat 14 = .ok (.ireturn, 1) := by decide +kernel
theorem dL_addVat_15 : decode cL_addVat 15 = .ok (.astore_n 3, 1) := by decide +kernel
theorem dL_addVat_16 : decode cL_addVat 16 = .ok (.iconst 2, 1) := by decide +kernel
theorem dL_addVat_17 : decode cL_addVat 17 = .ok (.ireturn, 1) := by decide +kernel
theorem dL_addVat_18 : decode cL_addVat 18 = .ok (.iconst 0, 1) := by decide +kernel
theorem dL_addVat_19 : decode cL_addVat 19 = .ok (.ireturn, 1) := by decide +kernel
set_option maxRecDepth 20000 in
theorem ggL_needs_X6_needs : GoodIn wsL_needs wsX6_needs := goodIn_ca (goodIn_ca (goodIn_ca (goodIn_r _ [7, 8, 9, 10, 6, 11, 12, 13, 14, 15, 16, 17, 18, 19, 20, 21, 22, 23, 24, 25, 26, 27, 28, 29, 30, 31, 32, 33, 34, 35, 36, 37, 38, 39, 40, 41, 42, 43, 44, 45, 46, 47, 48, 49, 50, 51, 52, 53, 54, 55, 56, 57, 58] (by decide +kernel) (by decide +kernel)) (goodIn_sub (fun _ h => List.mem_cons_of_mem _ (List.mem_append_left _ (List.mem_append_right _ h))) (by decide +kernel))) (goodIn_sub (fun _ h => List.mem_cons_of_mem _ (List.mem_append_right _ h)) (by decide +kernel))) (goodIn_sub (fun _ h => List.mem_cons_of_mem _ (List.mem_append_left _ (List.mem_append_left _ (List.mem_append_right _ h)))) (by decide +kernel))
set_option maxRecDepth 20000 in
theorem gL_needs_X6_needs : GoodIn wsL_needs (wsV RL 40 RX6 yX6_needs wsX6_needs) := goodIn_app (goodIn_of _ (by decide +kernel)) ggL_needs_X6_needs
theorem dL_needs_0 : decode cL_needs 0 = .ok (.aload_n 3, 1) := by decide +kernel
theorem dL_needs_1 : decode cL_needs 1 = .ok (.iconst 0, 1) := by decide +kernel
theorem dL_needs_2 : decode cL_needs 2 = .ok (.aload_n 0, 1) := by decide +kernel
theorem dL_needs_3 : decode cL_needs 3 = .ok (.iload_n 1, 1) := by decide +kernel
theorem dL_needs_4 : decode cL_needs 4 = .ok (.iload_n 2, 1) := by decide +kernel
theorem dL_needs_5 : decode cL_needs 5 = .ok (.invokevirtual 40, 3) := by decide +kernel
theorem dL_needs_8 : decode cL_needs 8 = .ok (.i2l, 1) := by decide +kernel
theorem dL_needs_9 : decode cL_needs 9 = .ok (.lastore, 1) := by decide +kernel
theorem dL_needs_10 : decode cL_needs 10 = .ok (.goto 11, 3) := by decide +kernel
theorem dL_needs_13 : decode cL_needs 13 = .ok (.astore 4, 2) := by decide +kernel
theorem dL_needs_15 : decode cL_needs 15 = .ok (.iconst 1, 1) := by decide +kernel
theorem dL_needs_16 : decode cL_needs 16 = .ok (.ireturn, 1) := by decide +kernel
theorem dL_needs_17 : decode cL_needs 17 = .ok (.astore 4, 2) := by decide +kernel
theorem dL_needs_19 : decode cL_needs 19 = .ok (.iconst 2, 1) := by decide +kernel
theorem dL_needs_20 : decode cL_needs 20 = .ok (.ireturn, 1) := by decide +kernel
theorem dL_needs_21 : decode cL_needs 21 = .ok (.iconst 0, 1) := by decide +kernel
theorem dL_needs_22 : decode cL_needs 22 = .ok (.ireturn, 1) := by decide +kernel
set_option maxRecDepth 20000 in
theorem ggL_hoursFor_X6_hoursFor : GoodIn wsL_hoursFor wsX6_hoursFor := goodIn_ca (goodIn_r _ [6, 7, 8, 9, 5, 10, 11, 12, 13, 14, 15, 16, 17, 18, 19, 20, 21, 22, 23, 24, 25, 26, 27, 28, 29, 30, 31, 32, 33, 34, 35, 36, 37, 38, 39] (by decide +kernel) (by decide +kernel)) (goodIn_sub (fun _ h => List.mem_cons_of_mem _ (List.mem_append_right _ h)) (by decide +kernel))
set_option maxRecDepth 20000 in
theorem gL_hoursFor_X6_hoursFor : GoodIn wsL_hoursFor (wsV RL 43 RX6 yX6_hoursFor wsX6_hoursFor) := goodIn_app (goodIn_of _ (by decide +kernel)) ggL_hoursFor_X6_hoursFor
theorem dL_hoursFor_0 : decode cL_hoursFor 0 = .ok (.aload_n 2, 1) := by decide +kernel
theorem dL_hoursFor_1 : decode cL_hoursFor 1 = .ok (.iconst 0, 1) := by decide +kernel
theorem dL_hoursFor_2 : decode cL_hoursFor 2 = .ok (.aload_n 0, 1) := by decide +kernel
theorem dL_hoursFor_3 : decode cL_hoursFor 3 = .ok (.iload_n 1, 1) := by decide +kernel
theorem dL_hoursFor_4 : decode cL_hoursFor 4 = .ok (.invokevirtual 43, 3) := by decide +kernel
theorem dL_hoursFor_7 : decode cL_hoursFor 7 = .ok (.i2l, 1) := by decide +kernel
theorem dL_hoursFor_8 : decode cL_hoursFor 8 = .ok (.lastore, 1) := by decide +kernel
theorem dL_hoursFor_9 : decode cL_hoursFor 9 = .ok (.goto 6, 3) := by decide +kernel
theorem dL_hoursFor_12 : decode cL_hoursFor 12 = .ok (.astore_n 3, 1) := by decide +kernel
theorem dL_hoursFor_13 : decode cL_hoursFor 13 = .ok (.iconst 1, 1) := by decide +kernel
theorem dL_hoursFor_14 : decode cL_hoursFor 14 = .ok (.ireturn, 1) := by decide +kernel
theorem dL_hoursFor_15 : decode cL_hoursFor 15 = .ok (.iconst 0, 1) := by decide +kernel
theorem dL_hoursFor_16 : decode cL_hoursFor 16 = .ok (.ireturn, 1) := by decide +kernel
set_option maxRecDepth 20000 in
theorem ggL_reason_X6_reason : GoodIn wsL_reason wsX6_reason := goodIn_ca (goodIn_ca (goodIn_r _ [6, 7, 8, 9, 5, 10, 11, 12, 13, 14, 15, 16, 17, 18, 19, 20, 21, 22, 23, 24, 25, 26, 27, 28, 29, 30, 31, 32, 33, 34, 35, 36, 37, 38, 39, 40, 41, 42, 43, 44, 45, 46, 47, 48, 49, 50, 51, 52, 53, 54, 55, 56, 57, 58, 59, 60, 61, 62, 63, 64, 65, 66, 67, 68, 69, 70, 71, 72, 73, 74, 75, 76, 77, 78, 79, 80, 81, 82, 83, 84, 85, 86, 87, 88] (by decide +kernel) (by decide +kernel)) (goodIn_sub (fun _ h => List.mem_cons_of_mem _ (List.mem_append_right _ h)) (by decide +kernel))) (goodIn_sub (fun _ h => List.mem_cons_of_mem _ (List.mem_append_left _ (List.mem_append_right _ h))) (by decide +kernel))
set_option maxRecDepth 20000 in
theorem gL_reason_X6_reason : GoodIn wsL_reason (wsV RL 46 RX6 yX6_reason wsX6_reason) := goodIn_app (goodIn_of _ (by decide +kernel)) ggL_reason_X6_reason
theorem dL_reason_0 : decode cL_reason 0 = .ok (.aload_n 3, 1) := by decide +kernel
theorem dL_reason_1 : decode cL_reason 1 = .ok (.iconst 0, 1) := by decide +kernel
theorem dL_reason_2 : decode cL_reason 2 = .ok (.aload_n 0, 1) := by decide +kernel
theorem dL_reason_3 : decode cL_reason 3 = .ok (.iload_n 1, 1) := by decide +kernel
theorem dL_reason_4 : decode cL_reason 4 = .ok (.iload_n 2, 1) := by decide +kernel
theorem dL_reason_5 : decode cL_reason 5 = .ok (.invokevirtual 46, 3) := by decide +kernel
theorem dL_reason_8 : decode cL_reason 8 = .ok (.i2l, 1) := by decide +kernel
theorem dL_reason_9 : decode cL_reason 9 = .ok (.lastore, 1) := by decide +kernel
theorem dL_reason_10 : decode cL_reason 10 = .ok (.goto 7, 3) := by decide +kernel
theorem dL_reason_13 : decode cL_reason 13 = .ok (.astore 4, 2) := by decide +kernel
theorem dL_reason_15 : decode cL_reason 15 = .ok (.iconst 1, 1) := by decide +kernel
theorem dL_reason_16 : decode cL_reason 16 = .ok (.ireturn, 1) := by decide +kernel
theorem dL_reason_17 : decode cL_reason 17 = .ok (.iconst 0, 1) := by decide +kernel
theorem dL_reason_18 : decode cL_reason 18 = .ok (.ireturn, 1) := by decide +kernel
set_option maxRecDepth 20000 in
theorem ggL_dye_X6_dye : GoodIn wsL_dye wsX6_dye := goodIn_ca (goodIn_ca (goodIn_ca (goodIn_ca (goodIn_r _ [8, 9, 10, 11, 12, 13, 14, 15, 16, 17, 18, 19, 20, 21, 22, 7, 23, 24, 25, 26, 27, 28, 29, 30, 31, 32, 33, 34, 35, 36, 37, 38, 39, 40, 41, 42, 43, 44, 45, 46, 47, 48, 49, 50, 51, 52, 53, 54, 55, 56, 57, 58, 59, 60, 61, 62, 63, 64, 65, 66, 67, 68, 69, 70, 71, 72, 73, 74, 75, 76, 77, 78, 79, 80, 81, 82, 83, 84, 85, 86, 87, 88, 89, 90, 91, 92, 93, 94, 95, 96, 97, 98, 99, 100, 101, 102, 103, 104, 105, 106, 107, 108, 109, 110, 111, 112, 113, 114, 115, 116, 117, 118, 119, 120, 121, 122, 123, 124] (by decide +kernel) (by decide +kernel)) (goodIn_sub (fun _ h => List.mem_cons_of_mem _ (List.mem_append_left _ (List.mem_append_left _ (List.mem_append_right _ h)))) (by decide +kernel))) (goodIn_sub (fun _ h => List.mem_cons_of_mem _ (List.mem_append_left _ (List.mem_append_right _ h))) (by decide +kernel))) (goodIn_sub (fun _ h => List.mem_cons_of_mem _ (List.mem_append_right _ h)) (by decide +kernel))) (goodIn_sub (fun _ h => List.mem_cons_of_mem _ (List.mem_append_left _ (List.mem_append_left _ (List.mem_append_left _ (List.mem_append_right _ h))))) (by decide +kernel))
set_option maxRecDepth 20000 in
theorem gL_dye_X6_dye : GoodIn wsL_dye (wsV RL 50 RX6 yX6_dye wsX6_dye) := goodIn_app (goodIn_of _ (by decide +kernel)) ggL_dye_X6_dye
theorem dL_dye_0 : decode cL_dye 0 = .ok (.aload 6, 2) := by decide +kernel
theorem dL_dye_2 : decode cL_dye 2 = .ok (.iconst 0, 1) := by decide +kernel
theorem dL_dye_3 : decode cL_dye 3 = .ok (.aload_n 0, 1) := by decide +kernel
theorem dL_dye_4 : decode cL_dye 4 = .ok (.iload_n 1, 1) := by decide +kernel
theorem dL_dye_5 : decode cL_dye 5 = .ok (.iload_n 2, 1) := by decide +kernel
theorem dL_dye_6 : decode cL_dye 6 = .ok (.iload_n 3, 1) := by decide +kernel
theorem dL_dye_7 : decode cL_dye 7 = .ok (.iload 4, 2) := by decide +kernel
theorem dL_dye_9 : decode cL_dye 9 = .ok (.iload 5, 2) := by decide +kernel
theorem dL_dye_11 : decode cL_dye 11 = .ok (.invokevirtual 50, 3) := by decide +kernel
theorem dL_dye_14 : decode cL_dye 14 = .ok (.i2l, 1) := by decide +kernel
theorem dL_dye_15 : decode cL_dye 15 = .ok (.lastore, 1) := by decide +kernel
theorem dL_dye_16 : decode cL_dye 16 = .ok (.goto 15, 3) := by decide +kernel
theorem dL_dye_19 : decode cL_dye 19 = .ok (.astore 7, 2) := by decide +kernel
theorem dL_dye_21 : decode cL_dye 21 = .ok (.iconst 1, 1) := by decide +kernel
theorem dL_dye_22 : decode cL_dye 22 = .ok (.ireturn, 1) := by decide +kernel
theorem dL_dye_23 : decode cL_dye 23 = .ok (.astore 7, 2) := by decide +kernel
theorem dL_dye_25 : decode cL_dye 25 = .ok (.iconst 2, 1) := by decide +kernel
theorem dL_dye_26 : decode cL_dye 26 = .ok (.ireturn, 1) := by decide +kernel
theorem dL_dye_27 : decode cL_dye 27 = .ok (.astore 7, 2) := by decide +kernel
theorem dL_dye_29 : decode cL_dye 29 = .ok (.iconst 3, 1) := by decide +kernel
theorem dL_dye_30 : decode cL_dye 30 = .ok (.ireturn, 1) := by decide +kernel
theorem dL_dye_31 : decode cL_dye 31 = .ok (.iconst 0, 1) := by decide +kernel
theorem dL_dye_32 : decode cL_dye 32 = .ok (.ireturn, 1) := by decide +kernel
set_option maxRecDepth 20000 in
theorem ggL_clean_X6_clean : GoodIn wsL_clean wsX6_clean := goodIn_ca (goodIn_r _ [6, 7, 8, 9, 10, 11, 12, 13, 5, 14, 15, 16, 17, 18, 19, 20, 21, 22, 23, 24, 25, 26, 27, 28, 29, 30, 31, 32, 33, 34] (by decide +kernel) (by decide +kernel)) (goodIn_sub (fun _ h => List.mem_cons_of_mem _ (List.mem_append_right _ h)) (by decide +kernel))
set_option maxRecDepth 20000 in
theorem gL_clean_X6_clean : GoodIn wsL_clean (wsV RL 55 RX6 yX6_clean wsX6_clean) := goodIn_app (goodIn_of _ (by decide +kernel)) ggL_clean_X6_clean
theorem dL_clean_0 : decode cL_clean 0 = .ok (.aload_n 2, 1) := by decide +kernel
theorem dL_clean_1 : decode cL_clean 1 = .ok (.iconst 0, 1) := by decide +kernel
theorem dL_clean_2 : decode cL_clean 2 = .ok (.aload_n 0, 1) := by decide +kernel
theorem dL_clean_3 : decode cL_clean 3 = .ok (.iload_n 1, 1) := by decide +kernel
theorem dL_clean_4 : decode cL_clean 4 = .ok (.invokevirtual 55, 3) := by decide +kernel
theorem dL_clean_7 : decode cL_clean 7 = .ok (.i2l, 1) := by decide +kernel
theorem dL_clean_8 : decode cL_clean 8 = .ok (.lastore, 1) := by decide +kernel
theorem dL_clean_9 : decode cL_clean 9 = .ok (.goto 6, 3) := by decide +kernel
theorem dL_clean_12 : decode cL_clean 12 = .ok (.astore_n 3, 1) := by decide +kernel
theorem dL_clean_13 : decode cL_clean 13 = .ok (.iconst 1, 1) := by decide +kernel
theorem dL_clean_14 : decode cL_clean 14 = .ok (.ireturn, 1) := by decide +kernel
theorem dL_clean_15 : decode cL_clean 15 = .ok (.iconst 0, 1) := by decide +kernel
theorem dL_clean_16 : decode cL_clean 16 = .ok (.ireturn, 1) := by decide +kernel
set_option maxRecDepth 20000 in
theorem ggL_verdict_X6_verdict : GoodIn wsL_verdict wsX6_verdict := goodIn_ca (goodIn_ca (goodIn_r _ [7, 8, 9, 10, 6, 11, 12, 13, 14, 15, 16, 17, 18, 19, 20, 21, 22, 23, 24, 25, 26, 27, 28, 29, 30, 31, 32, 33, 34, 35, 36, 37, 38, 39, 40, 41, 42, 43, 44, 45, 46, 47, 48, 49, 50, 51, 52, 53, 54, 55, 56, 57, 58, 59, 60, 61, 62, 63, 64, 65, 66, 67, 68, 69, 70, 71, 72, 73, 74, 75, 76, 77, 78, 79, 80, 81, 82, 83, 84, 85, 86, 87, 88, 89, 90, 91, 92] (by decide +kernel) (by decide +kernel)) (goodIn_sub (fun _ h => List.mem_cons_of_mem _ (List.mem_append_left _ (List.mem_append_right _ h))) (by decide +kernel))) (goodIn_sub (fun _ h => List.mem_cons_of_mem _ (List.mem_append_right _ h)) (by decide +kernel))
set_option maxRecDepth 20000 in
theorem gL_verdict_X6_verdict : GoodIn wsL_verdict (wsV RL 58 RX6 yX6_verdict wsX6_verdict) := goodIn_app (goodIn_of _ (by decide +kernel)) ggL_verdict_X6_verdict
theorem dL_verdict_0 : decode cL_verdict 0 = .ok (.aload_n 2, 1) := by decide +kernel
theorem dL_verdict_1 : decode cL_verdict 1 = .ok (.iconst 0, 1) := by decide +kernel
theorem dL_verdict_2 : decode cL_verdict 2 = .ok (.aload_n 0, 1) := by decide +kernel
theorem dL_verdict_3 : decode cL_verdict 3 = .ok (.iload_n 1, 1) := by decide +kernel
theorem dL_verdict_4 : decode cL_verdict 4 = .ok (.invokevirtual 58, 3) := by decide +kernel
theorem dL_verdict_7 : decode cL_verdict 7 = .ok (.i2l, 1) := by decide +kernel
theorem dL_verdict_8 : decode cL_verdict 8 = .ok (.lastore, 1) := by decide +kernel
theorem dL_verdict_9 : decode cL_verdict 9 = .ok (.goto 9, 3) := by decide +kernel
theorem dL_verdict_12 : decode cL_verdict 12 = .ok (.astore_n 3, 1) := by decide +kernel
theorem dL_verdict_13 : decode cL_verdict 13 = .ok (.iconst 1, 1) := by decide +kernel
theorem dL_verdict_14 : decode cL_verdict 14 = .ok (.ireturn, 1) := by decide +kernel
theorem dL_verdict_15 : decode cL_verdict 15 = .ok (.astore_n 3, 1) := by decide +kernel
theorem dL_verdict_16 : decode cL_verdict 16 = .ok (.iconst 2, 1) := by decide +kernel
theorem dL_verdict_17 : decode cL_verdict 17 = .ok (.ireturn, 1) := by decide +kernel
theorem dL_verdict_18 : decode cL_verdict 18 = .ok (.iconst 0, 1) := by decide +kernel
theorem dL_verdict_19 : decode cL_verdict 19 = .ok (.ireturn, 1) := by decide +kernel
set_option maxRecDepth 20000 in
theorem ggL_judge_X6_judge : GoodIn wsL_judge wsX6_judge := goodIn_ca (goodIn_ca (goodIn_r _ [7, 8, 9, 10, 11, 6, 12, 13, 14, 15, 16, 17, 18, 19, 20, 21, 22, 23, 24, 25, 26, 27, 28, 29, 30, 31, 32, 33, 34, 35, 36, 37, 38, 39, 40, 41, 42, 43, 44, 45, 46, 47, 48, 49, 50, 51, 52, 53, 54, 55, 56, 57, 58, 59, 60, 61, 62, 63, 64, 65, 66, 67, 68, 69, 70, 71, 72, 73, 74, 75, 76, 77, 78, 79, 80, 81, 82, 83, 84, 85, 86, 87, 88, 89, 90, 91, 92, 93, 94, 95, 96, 97, 98, 99, 100, 101, 102, 103, 104, 105, 106] (by decide +kernel) (by decide +kernel)) (goodIn_sub (fun _ h => List.mem_cons_of_mem _ (List.mem_append_left _ (List.mem_append_right _ h))) (by decide +kernel))) (goodIn_sub (fun _ h => List.mem_cons_of_mem _ (List.mem_append_right _ h)) (by decide +kernel))
set_option maxRecDepth 20000 in
theorem gL_judge_X6_judge : GoodIn wsL_judge (wsV RL 62 RX6 yX6_judge wsX6_judge) := goodIn_app (goodIn_of _ (by decide +kernel)) ggL_judge_X6_judge
theorem dL_judge_0 : decode cL_judge 0 = .ok (.aload_n 2, 1) := by decide +kernel
theorem dL_judge_1 : decode cL_judge 1 = .ok (.iconst 0, 1) := by decide +kernel
theorem dL_judge_2 : decode cL_judge 2 = .ok (.aload_n 0, 1) := by decide +kernel
theorem dL_judge_3 : decode cL_judge 3 = .ok (.iload_n 1, 1) := by decide +kernel
theorem dL_judge_4 : decode cL_judge 4 = .ok (.invokevirtual 62, 3) := by decide +kernel
theorem dL_judge_7 : decode cL_judge 7 = .ok (.ifCond .eq 7, 3) := by decide +kernel
theorem dL_judge_10 : decode cL_judge 10 = .ok (.lconst 1, 1) := by decide +kernel
theorem dL_judge_11 : decode cL_judge 11 = .ok (.goto 4, 3) := by decide +kernel
theorem dL_judge_14 : decode cL_judge 14 = .ok (.lconst 0, 1) := by decide +kernel
theorem dL_judge_15 : decode cL_judge 15 = .ok (.lastore, 1) := by decide +kernel
theorem dL_judge_16 : decode cL_judge 16 = .ok (.goto 9, 3) := by decide +kernel
theorem dL_judge_19 : decode cL_judge 19 = .ok (.astore_n 3, 1) := by decide +kernel
theorem dL_judge_20 : decode cL_judge 20 = .ok (.iconst 1, 1) := by decide +kernel
theorem dL_judge_21 : decode cL_judge 21 = .ok (.ireturn, 1) := by decide +kernel
theorem dL_judge_22 : decode cL_judge 22 = .ok (.astore_n 3, 1) := by decide +kernel
theorem dL_judge_23 : decode cL_judge 23 = .ok (.iconst 2, 1) := by decide +kernel
theorem dL_judge_24 : decode cL_judge 24 = .ok (.ireturn, 1) := by decide +kernel
theorem dL_judge_25 : decode cL_judge 25 = .ok (.iconst 0, 1) := by decide +kernel
theorem dL_judge_26 : decode cL_judge 26 = .ok (.ireturn, 1) := by decide +kernel
set_option maxRecDepth 20000 in
theorem ggL_again_X6_again : GoodIn wsL_again wsX6_again := goodIn_ca (goodIn_ca (goodIn_r _ [7, 8, 9, 10, 11, 12, 13, 14, 6, 15, 16, 17, 18, 19, 20, 21, 22, 23, 24, 25, 26, 27, 28, 29, 30, 31, 32, 33, 34, 35, 36, 37, 38, 39, 40, 41, 42] (by decide +kernel) (by decide +kernel)) (goodIn_sub (fun _ h => List.mem_cons_of_mem _ (List.mem_append_left _ (List.mem_append_right _ h))) (by decide +kernel))) (goodIn_sub (fun _ h => List.mem_cons_of_mem _ (List.mem_append_right _ h)) (by decide +kernel))
set_option maxRecDepth 20000 in
theorem gL_again_X6_again : GoodIn wsL_again (wsV RL 66 RX6 yX6_again wsX6_again) := goodIn_app (goodIn_of _ (by decide +kernel)) ggL_again_X6_again
theorem dL_again_0 : decode cL_again 0 = .ok (.aload_n 2, 1) := by decide +kernel
theorem dL_again_1 : decode cL_again 1 = .ok (.iconst 0, 1) := by decide +kernel
theorem dL_again_2 : decode cL_again 2 = .ok (.aload_n 0, 1) := by decide +kernel
theorem dL_again_3 : decode cL_again 3 = .ok (.iload_n 1, 1) := by decide +kernel
theorem dL_again_4 : decode cL_again 4 = .ok (.invokevirtual 66, 3) := by decide +kernel
theorem dL_again_7 : decode cL_again 7 = .ok (.i2l, 1) := by decide +kernel
theorem dL_again_8 : decode cL_again 8 = .ok (.lastore, 1) := by decide +kernel
theorem dL_again_9 : decode cL_again 9 = .ok (.goto 9, 3) := by decide +kernel
theorem dL_again_12 : decode cL_again 12 = .ok (.astore_n 3, 1) := by decide +kernel
theorem dL_again_13 : decode cL_again 13 = .ok (.iconst 1, 1) := by decide +kernel
theorem dL_again_14 : decode cL_again 14 = .ok (.ireturn, 1) := by decide +kernel
theorem dL_again_15 : decode cL_again 15 = .ok (.astore_n 3, 1) := by decide +kernel
theorem dL_again_16 : decode cL_again 16 = .ok (.iconst 2, 1) := by decide +kernel
theorem dL_again_17 : decode cL_again 17 = .ok (.ireturn, 1) := by decide +kernel
theorem dL_again_18 : decode cL_again 18 = .ok (.iconst 0, 1) := by decide +kernel
theorem dL_again_19 : decode cL_again 19 = .ok (.ireturn, 1) := by decide +kernel
set_option maxRecDepth 20000 in
theorem ggL_plan_X6_plan : GoodIn wsL_plan wsX6_plan := goodIn_ca (goodIn_ca (goodIn_ca (goodIn_r _ [8, 9, 10, 11, 12, 13, 14, 15, 16, 17, 18, 19, 7, 20, 21, 22, 23, 24, 25, 26, 27, 28, 29, 30, 31, 32, 33, 34, 35, 36, 37, 38, 39, 40, 41, 42, 43, 44, 45, 46, 47, 48, 49, 50, 51, 52, 53, 54, 55, 56, 57, 58] (by decide +kernel) (by decide +kernel)) (goodIn_sub (fun _ h => List.mem_cons_of_mem _ (List.mem_append_left _ (List.mem_append_left _ (List.mem_append_right _ h)))) (by decide +kernel))) (goodIn_sub (fun _ h => List.mem_cons_of_mem _ (List.mem_append_left _ (List.mem_append_right _ h))) (by decide +kernel))) (goodIn_sub (fun _ h => List.mem_cons_of_mem _ (List.mem_append_right _ h)) (by decide +kernel))
set_option maxRecDepth 20000 in
theorem gL_plan_X6_plan : GoodIn wsL_plan (wsV RL 69 RX6 yX6_plan wsX6_plan) := goodIn_app (goodIn_of _ (by decide +kernel)) ggL_plan_X6_plan
theorem dL_plan_0 : decode cL_plan 0 = .ok (.aload_n 3, 1) := by decide +kernel
theorem dL_plan_1 : decode cL_plan 1 = .ok (.iconst 0, 1) := by decide +kernel
theorem dL_plan_2 : decode cL_plan 2 = .ok (.aload_n 0, 1) := by decide +kernel
theorem dL_plan_3 : decode cL_plan 3 = .ok (.iload_n 1, 1) := by decide +kernel
theorem dL_plan_4 : decode cL_plan 4 = .ok (.iload_n 2, 1) := by decide +kernel
theorem dL_plan_5 : decode cL_plan 5 = .ok (.invokevirtual 69, 3) := by decide +kernel
theorem dL_plan_8 : decode cL_plan 8 = .ok (.i2l, 1) := by decide +kernel
theorem dL_plan_9 : decode cL_plan 9 = .ok (.lastore, 1) := by decide +kernel
theorem dL_plan_10 : decode cL_plan 10 = .ok (.goto 15, 3) := by decide +kernel
theorem dL_plan_13 : decode cL_plan 13 = .ok (.astore 4, 2) := by decide +kernel
theorem dL_plan_15 : decode cL_plan 15 = .ok (.iconst 1, 1) := by decide +kernel
theorem dL_plan_16 : decode cL_plan 16 = .ok (.ireturn, 1) := by decide +kernel
theorem dL_plan_17 : decode cL_plan 17 = .ok (.astore 4, 2) := by decide +kernel
theorem dL_plan_19 : decode cL_plan 19 = .ok (.iconst 2, 1) := by decide +kernel
theorem dL_plan_20 : decode cL_plan 20 = .ok (.ireturn, 1) := by decide +kernel
theorem dL_plan_21 : decode cL_plan 21 = .ok (.astore 4, 2) := by decide +kernel
theorem dL_plan_23 : decode cL_plan 23 = .ok (.iconst 3, 1) := by decide +kernel
theorem dL_plan_24 : decode cL_plan 24 = .ok (.ireturn, 1) := by decide +kernel
theorem dL_plan_25 : decode cL_plan 25 = .ok (.iconst 0, 1) := by decide +kernel
theorem dL_plan_26 : decode cL_plan 26 = .ok (.ireturn, 1) := by decide +kernel
set_option maxRecDepth 20000 in
theorem ggL_unplan_X6_unplan : GoodIn wsL_unplan wsX6_unplan := goodIn_ca (goodIn_ca (goodIn_r _ [7, 8, 9, 10, 11, 12, 13, 14, 6, 15, 16, 17, 18, 19, 20, 21, 22, 23, 24, 25, 26, 27, 28, 29, 30, 31, 32, 33, 34, 35, 36, 37, 38, 39, 40, 41, 42, 43, 44] (by decide +kernel) (by decide +kernel)) (goodIn_sub (fun _ h => List.mem_cons_of_mem _ (List.mem_append_left _ (List.mem_append_right _ h))) (by decide +kernel))) (goodIn_sub (fun _ h => List.mem_cons_of_mem _ (List.mem_append_right _ h)) (by decide +kernel))
set_option maxRecDepth 20000 in
theorem gL_unplan_X6_unplan : GoodIn wsL_unplan (wsV RL 72 RX6 yX6_unplan wsX6_unplan) := goodIn_app (goodIn_of _ (by decide +kernel)) ggL_unplan_X6_unplan
theorem dL_unplan_0 : decode cL_unplan 0 = .ok (.aload_n 2, 1) := by decide +kernel
theorem dL_unplan_1 : decode cL_unplan 1 = .ok (.iconst 0, 1) := by decide +kernel
theorem dL_unplan_2 : decode cL_unplan 2 = .ok (.aload_n 0, 1) := by decide +kernel
theorem dL_unplan_3 : decode cL_unplan 3 = .ok (.iload_n 1, 1) := by decide +kernel
theorem dL_unplan_4 : decode cL_unplan 4 = .ok (.invokevirtual 72, 3) := by decide +kernel
theorem dL_unplan_7 : decode cL_unplan 7 = .ok (.i2l, 1) := by decide +kernel
theorem dL_unplan_8 : decode cL_unplan 8 = .ok (.lastore, 1) := by decide +kernel
theorem dL_unplan_9 : decode cL_unplan 9 = .ok (.goto 9, 3) := by decide +kernel
theorem dL_unplan_12 : decode cL_unplan 12 = .ok (.astore_n 3, 1) := by decide +kernel
theorem dL_unplan_13 : decode cL_unplan 13 = .ok (.iconst 1, 1) := by decide +kernel
theorem dL_unplan_14 : decode cL_unplan 14 = .ok (.ireturn, 1) := by decide +kernel
theorem dL_unplan_15 : decode cL_unplan 15 = .ok (.astore_n 3, 1) := by decide +kernel
theorem dL_unplan_16 : decode cL_unplan 16 = .ok (.iconst 2, 1) := by decide +kernel
theorem dL_unplan_17 : decode cL_unplan 17 = .ok (.ireturn, 1) := by decide +kernel
theorem dL_unplan_18 : decode cL_unplan 18 = .ok (.iconst 0, 1) := by decide +kernel
theorem dL_unplan_19 : decode cL_unplan 19 = .ok (.ireturn, 1) := by decide +kernel
set_option maxRecDepth 20000 in
theorem ggL_planned_X6_planned : GoodIn wsL_planned wsX6_planned := goodIn_ca (goodIn_r _ [6, 7, 8, 9, 5, 10, 11, 12, 13, 14, 15, 16, 17, 18, 19, 20, 21, 22, 23, 24, 25, 26, 27, 28, 29, 30, 31, 32, 33, 34, 35, 36, 37, 38, 39] (by decide +kernel) (by decide +kernel)) (goodIn_sub (fun _ h => List.mem_cons_of_mem _ (List.mem_append_right _ h)) (by decide +kernel))
set_option maxRecDepth 20000 in
theorem gL_planned_X6_planned : GoodIn wsL_planned (wsV RL 75 RX6 yX6_planned wsX6_planned) := goodIn_app (goodIn_of _ (by decide +kernel)) ggL_planned_X6_planned
theorem dL_planned_0 : decode cL_planned 0 = .ok (.aload_n 2, 1) := by decide +kernel
theorem dL_planned_1 : decode cL_planned 1 = .ok (.iconst 0, 1) := by decide +kernel
theorem dL_planned_2 : decode cL_planned 2 = .ok (.aload_n 0, 1) := by decide +kernel
theorem dL_planned_3 : decode cL_planned 3 = .ok (.iload_n 1, 1) := by decide +kernel
theorem dL_planned_4 : decode cL_planned 4 = .ok (.invokevirtual 75, 3) := by decide +kernel
theorem dL_planned_7 : decode cL_planned 7 = .ok (.i2l, 1) := by decide +kernel
theorem dL_planned_8 : decode cL_planned 8 = .ok (.lastore, 1) := by decide +kernel
theorem dL_planned_9 : decode cL_planned 9 = .ok (.goto 6, 3) := by decide +kernel
theorem dL_planned_12 : decode cL_planned 12 = .ok (.astore_n 3, 1) := by decide +kernel
theorem dL_planned_13 : decode cL_planned 13 = .ok (.iconst 1, 1) := by decide +kernel
theorem dL_planned_14 : decode cL_planned 14 = .ok (.ireturn, 1) := by decide +kernel
theorem dL_planned_15 : decode cL_planned 15 = .ok (.iconst 0, 1) := by decide +kernel
theorem dL_planned_16 : decode cL_planned 16 = .ok (.ireturn, 1) := by decide +kernel
set_option maxRecDepth 20000 in
theorem ggL_plannedAt_X6_plannedAt : GoodIn wsL_plannedAt wsX6_plannedAt := goodIn_ca (goodIn_ca (goodIn_r _ [7, 8, 9, 10, 11, 12, 13, 14, 15, 6, 16, 17, 18, 19, 20, 21, 22, 23, 24, 25, 26, 27, 28, 29, 30, 31, 32, 33, 34, 35, 36, 37, 38, 39] (by decide +kernel) (by decide +kernel)) (goodIn_sub (fun _ h => List.mem_cons_of_mem _ (List.mem_append_left _ (List.mem_append_right _ h))) (by decide +kernel))) (goodIn_sub (fun _ h => List.mem_cons_of_mem _ (List.mem_append_right _ h)) (by decide +kernel))
set_option maxRecDepth 20000 in
theorem gL_plannedAt_X6_plannedAt : GoodIn wsL_plannedAt (wsV RL 78 RX6 yX6_plannedAt wsX6_plannedAt) := goodIn_app (goodIn_of _ (by decide +kernel)) ggL_plannedAt_X6_plannedAt
theorem dL_plannedAt_0 : decode cL_plannedAt 0 = .ok (.aload_n 3, 1) := by decide +kernel
theorem dL_plannedAt_1 : decode cL_plannedAt 1 = .ok (.iconst 0, 1) := by decide +kernel
theorem dL_plannedAt_2 : decode cL_plannedAt 2 = .ok (.aload_n 0, 1) := by decide +kernel
theorem dL_plannedAt_3 : decode cL_plannedAt 3 = .ok (.iload_n 1, 1) := by decide +kernel
theorem dL_plannedAt_4 : decode cL_plannedAt 4 = .ok (.iload_n 2, 1) := by decide +kernel
theorem dL_plannedAt_5 : decode cL_plannedAt 5 = .ok (.invokevirtual 78, 3) := by decide +kernel
theorem dL_plannedAt_8 : decode cL_plannedAt 8 = .ok (.i2l, 1) := by decide +kernel
theorem dL_plannedAt_9 : decode cL_plannedAt 9 = .ok (.lastore, 1) := by decide +kernel
theorem dL_plannedAt_10 : decode cL_plannedAt 10 = .ok (.goto 11, 3) := by decide +kernel
theorem dL_plannedAt_13 : decode cL_plannedAt 13 = .ok (.astore 4, 2) := by decide +kernel
theorem dL_plannedAt_15 : decode cL_plannedAt 15 = .ok (.iconst 1, 1) := by decide +kernel
theorem dL_plannedAt_16 : decode cL_plannedAt 16 = .ok (.ireturn, 1) := by decide +kernel
theorem dL_plannedAt_17 : decode cL_plannedAt 17 = .ok (.astore 4, 2) := by decide +kernel
theorem dL_plannedAt_19 : decode cL_plannedAt 19 = .ok (.iconst 2, 1) := by decide +kernel
theorem dL_plannedAt_20 : decode cL_plannedAt 20 = .ok (.ireturn, 1) := by decide +kernel
theorem dL_plannedAt_21 : decode cL_plannedAt 21 = .ok (.iconst 0, 1) := by decide +kernel
theorem dL_plannedAt_22 : decode cL_plannedAt 22 = .ok (.ireturn, 1) := by decide +kernel
set_option maxRecDepth 20000 in
theorem ggL_leastHours_X6_leastHours : GoodIn wsL_leastHours wsX6_leastHours := goodIn_ca (goodIn_ca (goodIn_r _ [6, 7, 8, 9, 10, 5, 11, 12, 13, 14, 15, 16, 17, 18, 19, 20, 21, 22, 23, 24, 25, 26, 27, 28, 29, 30, 31, 32, 33, 34, 35, 36, 37, 38, 39, 40, 41, 42, 43, 44, 45, 46, 47, 48, 49, 50, 51, 52, 53, 54, 55, 56, 57, 58, 59, 60, 61, 62, 63, 64, 65, 66, 67, 68, 69, 70, 71, 72, 73, 74, 75, 76, 77, 78, 79, 80, 81, 82, 83, 84, 85, 86, 87, 88, 89, 90, 91, 92, 93, 94, 95, 96, 97, 98, 99, 100, 101, 102, 103, 104, 105, 106, 107, 108, 109, 110, 111, 112] (by decide +kernel) (by decide +kernel)) (goodIn_sub (fun _ h => List.mem_cons_of_mem _ (List.mem_append_right _ h)) (by decide +kernel))) (goodIn_sub (fun _ h => List.mem_cons_of_mem _ (List.mem_append_left _ (List.mem_append_right _ h))) (by decide +kernel))
set_option maxRecDepth 20000 in
theorem gL_leastHours_X6_leastHours : GoodIn wsL_leastHours (wsV RL 83 RX6 yX6_leastHours wsX6_leastHours) := goodIn_app (goodIn_of _ (by decide +kernel)) ggL_leastHours_X6_leastHours
theorem dL_leastHours_0 : decode cL_leastHours 0 = .ok (.aload_n 2, 1) := by decide +kernel
theorem dL_leastHours_1 : decode cL_leastHours 1 = .ok (.iconst 0, 1) := by decide +kernel
theorem dL_leastHours_2 : decode cL_leastHours 2 = .ok (.aload_n 0, 1) := by decide +kernel
theorem dL_leastHours_3 : decode cL_leastHours 3 = .ok (.iload_n 1, 1) := by decide +kernel
theorem dL_leastHours_4 : decode cL_leastHours 4 = .ok (.invokevirtual 83, 3) := by decide +kernel
theorem dL_leastHours_7 : decode cL_leastHours 7 = .ok (.i2l, 1) := by decide +kernel
theorem dL_leastHours_8 : decode cL_leastHours 8 = .ok (.lastore, 1) := by decide +kernel
theorem dL_leastHours_9 : decode cL_leastHours 9 = .ok (.goto 6, 3) := by decide +kernel
theorem dL_leastHours_12 : decode cL_leastHours 12 = .ok (.astore_n 3, 1) := by decide +kernel
theorem dL_leastHours_13 : decode cL_leastHours 13 = .ok (.iconst 1, 1) := by decide +kernel
theorem dL_leastHours_14 : decode cL_leastHours 14 = .ok (.ireturn, 1) := by decide +kernel
theorem dL_leastHours_15 : decode cL_leastHours 15 = .ok (.iconst 0, 1) := by decide +kernel
theorem dL_leastHours_16 : decode cL_leastHours 16 = .ok (.ireturn, 1) := by decide +kernel
set_option maxRecDepth 20000 in
theorem ggL_leastByAll_X6_leastByAll : GoodIn wsL_leastByAll wsX6_leastByAll := goodIn_ca (goodIn_ca (goodIn_r _ [6, 7, 8, 9, 10, 5, 11, 12, 13, 14, 15, 16, 17, 18, 19, 20, 21, 22, 23, 24, 25, 26, 27, 28, 29, 30, 31, 32, 33, 34, 35, 36, 37, 38, 39, 40, 41, 42, 43, 44, 45, 46, 47, 48, 49, 50, 51, 52, 53, 54, 55, 56, 57, 58, 59, 60, 61, 62, 63, 64, 65, 66, 67, 68, 69, 70, 71, 72, 73, 74, 75, 76, 77, 78, 79, 80, 81, 82, 83, 84, 85, 86, 87, 88, 89, 90, 91, 92, 93, 94, 95, 96, 97, 98, 99, 100, 101, 102, 103, 104, 105, 106, 107, 108, 109, 110, 111, 112, 113] (by decide +kernel) (by decide +kernel)) (goodIn_sub (fun _ h => List.mem_cons_of_mem _ (List.mem_append_right _ h)) (by decide +kernel))) (goodIn_sub (fun _ h => List.mem_cons_of_mem _ (List.mem_append_left _ (List.mem_append_right _ h))) (by decide +kernel))
set_option maxRecDepth 20000 in
theorem gL_leastByAll_X6_leastByAll : GoodIn wsL_leastByAll (wsV RL 86 RX6 yX6_leastByAll wsX6_leastByAll) := goodIn_app (goodIn_of _ (by decide +kernel)) ggL_leastByAll_X6_leastByAll
theorem dL_leastByAll_0 : decode cL_leastByAll 0 = .ok (.aload_n 2, 1) := by decide +kernel
theorem dL_leastByAll_1 : decode cL_leastByAll 1 = .ok (.iconst 0, 1) := by decide +kernel
theorem dL_leastByAll_2 : decode cL_leastByAll 2 = .ok (.aload_n 0, 1) := by decide +kernel
theorem dL_leastByAll_3 : decode cL_leastByAll 3 = .ok (.iload_n 1, 1) := by decide +kernel
theorem dL_leastByAll_4 : decode cL_leastByAll 4 = .ok (.invokevirtual 86, 3) := by decide +kernel
theorem dL_leastByAll_7 : decode cL_leastByAll 7 = .ok (.i2l, 1) := by decide +kernel
theorem dL_leastByAll_8 : decode cL_leastByAll 8 = .ok (.lastore, 1) := by decide +kernel
theorem dL_leastByAll_9 : decode cL_leastByAll 9 = .ok (.goto 6, 3) := by decide +kernel
theorem dL_leastByAll_12 : decode cL_leastByAll 12 = .ok (.astore_n 3, 1) := by decide +kernel
theorem dL_leastByAll_13 : decode cL_leastByAll 13 = .ok (.iconst 1, 1) := by decide +kernel
theorem dL_leastByAll_14 : decode cL_leastByAll 14 = .ok (.ireturn, 1) := by decide +kernel
theorem dL_leastByAll_15 : decode cL_leastByAll 15 = .ok (.iconst 0, 1) := by decide +kernel
theorem dL_leastByAll_16 : decode cL_leastByAll 16 = .ok (.ireturn, 1) := by decide +kernel
set_option maxRecDepth 20000 in
theorem ggL_firstOf_X6_firstOf : GoodIn wsL_firstOf wsX6_firstOf := goodIn_ca (goodIn_ca (goodIn_ca (goodIn_r _ [7, 8, 9, 10, 11, 12, 13, 6, 14, 15, 16, 17, 18, 19, 20, 21, 22, 23, 24, 25, 26, 27, 28, 29, 30, 31, 32, 33, 34, 35, 36, 37, 38, 39, 40, 41, 42, 43, 44, 45, 46, 47, 48, 49, 50, 51, 52, 53, 54, 55, 56, 57, 58, 59, 60, 61, 62, 63, 64, 65, 66, 67, 68, 69, 70, 71, 72, 73, 74, 75, 76, 77, 78, 79, 80, 81, 82, 83, 84, 85, 86, 87, 88, 89, 90, 91, 92, 93, 94, 95, 96, 97, 98, 99, 100, 101, 102, 103, 104, 105, 106, 107, 108, 109, 110, 111, 112, 113, 114, 115, 116, 117, 118, 119, 120, 121, 122, 123] (by decide +kernel) (by decide +kernel)) (goodIn_sub (fun _ h => List.mem_cons_of_mem _ (List.mem_append_left _ (List.mem_append_right _ h))) (by decide +kernel))) (goodIn_sub (fun _ h => List.mem_cons_of_mem _ (List.mem_append_right _ h)) (by decide +kernel))) (goodIn_sub (fun _ h => List.mem_cons_of_mem _ (List.mem_append_left _ (List.mem_append_left _ (List.mem_append_right _ h)))) (by decide +kernel))
set_option maxRecDepth 20000 in
theorem gL_firstOf_X6_firstOf : GoodIn wsL_firstOf (wsV RL 89 RX6 yX6_firstOf wsX6_firstOf) := goodIn_app (goodIn_of _ (by decide +kernel)) ggL_firstOf_X6_firstOf
theorem dL_firstOf_0 : decode cL_firstOf 0 = .ok (.aload_n 2, 1) := by decide +kernel
theorem dL_firstOf_1 : decode cL_firstOf 1 = .ok (.iconst 0, 1) := by decide +kernel
theorem dL_firstOf_2 : decode cL_firstOf 2 = .ok (.aload_n 0, 1) := by decide +kernel
theorem dL_firstOf_3 : decode cL_firstOf 3 = .ok (.iload_n 1, 1) := by decide +kernel
theorem dL_firstOf_4 : decode cL_firstOf 4 = .ok (.invokevirtual 89, 3) := by decide +kernel
theorem dL_firstOf_7 : decode cL_firstOf 7 = .ok (.i2l, 1) := by decide +kernel
theorem dL_firstOf_8 : decode cL_firstOf 8 = .ok (.lastore, 1) := by decide +kernel
theorem dL_firstOf_9 : decode cL_firstOf 9 = .ok (.goto 9, 3) := by decide +kernel
theorem dL_firstOf_12 : decode cL_firstOf 12 = .ok (.astore_n 3, 1) := by decide +kernel
theorem dL_firstOf_13 : decode cL_firstOf 13 = .ok (.iconst 1, 1) := by decide +kernel
theorem dL_firstOf_14 : decode cL_firstOf 14 = .ok (.ireturn, 1) := by decide +kernel
theorem dL_firstOf_15 : decode cL_firstOf 15 = .ok (.astore_n 3, 1) := by decide +kernel
theorem dL_firstOf_16 : decode cL_firstOf 16 = .ok (.iconst 2, 1) := by decide +kernel
theorem dL_firstOf_17 : decode cL_firstOf 17 = .ok (.ireturn, 1) := by decide +kernel
theorem dL_firstOf_18 : decode cL_firstOf 18 = .ok (.iconst 0, 1) := by decide +kernel
theorem dL_firstOf_19 : decode cL_firstOf 19 = .ok (.ireturn, 1) := by decide +kernel
set_option maxRecDepth 20000 in
theorem ggL_stateOf_X6_stateOf : GoodIn wsL_stateOf wsX6_stateOf := goodIn_ca (goodIn_r _ [6, 7, 8, 9, 10, 5, 11, 12, 13, 14, 15, 16, 17, 18, 19, 20, 21, 22, 23, 24, 25, 26, 27, 28, 29, 30, 31, 32, 33, 34] (by decide +kernel) (by decide +kernel)) (goodIn_sub (fun _ h => List.mem_cons_of_mem _ (List.mem_append_right _ h)) (by decide +kernel))
set_option maxRecDepth 20000 in
theorem gL_stateOf_X6_stateOf : GoodIn wsL_stateOf (wsV RL 92 RX6 yX6_stateOf wsX6_stateOf) := goodIn_app (goodIn_of _ (by decide +kernel)) ggL_stateOf_X6_stateOf
theorem dL_stateOf_0 : decode cL_stateOf 0 = .ok (.aload_n 2, 1) := by decide +kernel
theorem dL_stateOf_1 : decode cL_stateOf 1 = .ok (.iconst 0, 1) := by decide +kernel
theorem dL_stateOf_2 : decode cL_stateOf 2 = .ok (.aload_n 0, 1) := by decide +kernel
theorem dL_stateOf_3 : decode cL_stateOf 3 = .ok (.iload_n 1, 1) := by decide +kernel
theorem dL_stateOf_4 : decode cL_stateOf 4 = .ok (.invokevirtual 92, 3) := by decide +kernel
theorem dL_stateOf_7 : decode cL_stateOf 7 = .ok (.i2l, 1) := by decide +kernel
theorem dL_stateOf_8 : decode cL_stateOf 8 = .ok (.lastore, 1) := by decide +kernel
theorem dL_stateOf_9 : decode cL_stateOf 9 = .ok (.goto 6, 3) := by decide +kernel
theorem dL_stateOf_12 : decode cL_stateOf 12 = .ok (.astore_n 3, 1) := by decide +kernel
theorem dL_stateOf_13 : decode cL_stateOf 13 = .ok (.iconst 1, 1) := by decide +kernel
theorem dL_stateOf_14 : decode cL_stateOf 14 = .ok (.ireturn, 1) := by decide +kernel
theorem dL_stateOf_15 : decode cL_stateOf 15 = .ok (.iconst 0, 1) := by decide +kernel
theorem dL_stateOf_16 : decode cL_stateOf 16 = .ok (.ireturn, 1) := by decide +kernel
set_option maxRecDepth 20000 in
theorem ggL_shadeOf_X6_shadeOf : GoodIn wsL_shadeOf wsX6_shadeOf := goodIn_ca (goodIn_ca (goodIn_ca (goodIn_r _ [8, 9, 10, 11, 12, 13, 14, 15, 16, 17, 7, 18, 19, 20, 21, 22, 23, 24, 25, 26, 27, 28, 29, 30, 31, 32, 33, 34, 35, 36, 37, 38, 39, 40, 41, 42, 43, 44, 45, 46, 47, 48, 49, 50, 51] (by decide +kernel) (by decide +kernel)) (goodIn_sub (fun _ h => List.mem_cons_of_mem _ (List.mem_append_left _ (List.mem_append_left _ (List.mem_append_right _ h)))) (by decide +kernel))) (goodIn_sub (fun _ h => List.mem_cons_of_mem _ (List.mem_append_left _ (List.mem_append_right _ h))) (by decide +kernel))) (goodIn_sub (fun _ h => List.mem_cons_of_mem _ (List.mem_append_right _ h)) (by decide +kernel))
set_option maxRecDepth 20000 in
theorem gL_shadeOf_X6_shadeOf : GoodIn wsL_shadeOf (wsV RL 95 RX6 yX6_shadeOf wsX6_shadeOf) := goodIn_app (goodIn_of _ (by decide +kernel)) ggL_shadeOf_X6_shadeOf
theorem dL_shadeOf_0 : decode cL_shadeOf 0 = .ok (.aload_n 3, 1) := by decide +kernel
theorem dL_shadeOf_1 : decode cL_shadeOf 1 = .ok (.iconst 0, 1) := by decide +kernel
theorem dL_shadeOf_2 : decode cL_shadeOf 2 = .ok (.aload_n 0, 1) := by decide +kernel
theorem dL_shadeOf_3 : decode cL_shadeOf 3 = .ok (.iload_n 1, 1) := by decide +kernel
theorem dL_shadeOf_4 : decode cL_shadeOf 4 = .ok (.iload_n 2, 1) := by decide +kernel
theorem dL_shadeOf_5 : decode cL_shadeOf 5 = .ok (.invokevirtual 95, 3) := by decide +kernel
theorem dL_shadeOf_8 : decode cL_shadeOf 8 = .ok (.i2l, 1) := by decide +kernel
theorem dL_shadeOf_9 : decode cL_shadeOf 9 = .ok (.lastore, 1) := by decide +kernel
theorem dL_shadeOf_10 : decode cL_shadeOf 10 = .ok (.goto 15, 3) := by decide +kernel
theorem dL_shadeOf_13 : decode cL_shadeOf 13 = .ok (.astore 4, 2) := by decide +kernel
theorem dL_shadeOf_15 : decode cL_shadeOf 15 = .ok (.iconst 1, 1) := by decide +kernel
theorem dL_shadeOf_16 : decode cL_shadeOf 16 = .ok (.ireturn, 1) := by decide +kernel
theorem dL_shadeOf_17 : decode cL_shadeOf 17 = .ok (.astore 4, 2) := by decide +kernel
theorem dL_shadeOf_19 : decode cL_shadeOf 19 = .ok (.iconst 2, 1) := by decide +kernel
theorem dL_shadeOf_20 : decode cL_shadeOf 20 = .ok (.ireturn, 1) := by decide +kernel
theorem dL_shadeOf_21 : decode cL_shadeOf 21 = .ok (.astore 4, 2) := by decide +kernel
theorem dL_shadeOf_23 : decode cL_shadeOf 23 = .ok (.iconst 3, 1) := by decide +kernel
theorem dL_shadeOf_24 : decode cL_shadeOf 24 = .ok (.ireturn, 1) := by decide +kernel
theorem dL_shadeOf_25 : decode cL_shadeOf 25 = .ok (.iconst 0, 1) := by decide +kernel
theorem dL_shadeOf_26 : decode cL_shadeOf 26 = .ok (.ireturn, 1) := by decide +kernel
set_option maxRecDepth 20000 in
theorem ggL_vatOf_X6_vatOf : GoodIn wsL_vatOf wsX6_vatOf := goodIn_ca (goodIn_ca (goodIn_r _ [7, 8, 9, 10, 11, 12, 13, 14, 6, 15, 16, 17, 18, 19, 20, 21, 22, 23, 24, 25, 26, 27, 28, 29, 30, 31, 32, 33, 34, 35, 36, 37, 38, 39, 40, 41, 42, 43, 44] (by decide +kernel) (by decide +kernel)) (goodIn_sub (fun _ h => List.mem_cons_of_mem _ (List.mem_append_left _ (List.mem_append_right _ h))) (by decide +kernel))) (goodIn_sub (fun _ h => List.mem_cons_of_mem _ (List.mem_append_right _ h)) (by decide +kernel))
set_option maxRecDepth 20000 in
theorem gL_vatOf_X6_vatOf : GoodIn wsL_vatOf (wsV RL 98 RX6 yX6_vatOf wsX6_vatOf) := goodIn_app (goodIn_of _ (by decide +kernel)) ggL_vatOf_X6_vatOf
theorem dL_vatOf_0 : decode cL_vatOf 0 = .ok (.aload_n 2, 1) := by decide +kernel
theorem dL_vatOf_1 : decode cL_vatOf 1 = .ok (.iconst 0, 1) := by decide +kernel
theorem dL_vatOf_2 : decode cL_vatOf 2 = .ok (.aload_n 0, 1) := by decide +kernel
theorem dL_vatOf_3 : decode cL_vatOf 3 = .ok (.iload_n 1, 1) := by decide +kernel
theorem dL_vatOf_4 : decode cL_vatOf 4 = .ok (.invokevirtual 98, 3) := by decide +kernel
theorem dL_vatOf_7 : decode cL_vatOf 7 = .ok (.i2l, 1) := by decide +kernel
theorem dL_vatOf_8 : decode cL_vatOf 8 = .ok (.lastore, 1) := by decide +kernel
theorem dL_vatOf_9 : decode cL_vatOf 9 = .ok (.goto 9, 3) := by decide +kernel
theorem dL_vatOf_12 : decode cL_vatOf 12 = .ok (.astore_n 3, 1) := by decide +kernel
theorem dL_vatOf_13 : decode cL_vatOf 13 = .ok (.iconst 1, 1) := by decide +kernel
theorem dL_vatOf_14 : decode cL_vatOf 14 = .ok (.ireturn, 1) := by decide +kernel
theorem dL_vatOf_15 : decode cL_vatOf 15 = .ok (.astore_n 3, 1) := by decide +kernel
theorem dL_vatOf_16 : decode cL_vatOf 16 = .ok (.iconst 2, 1) := by decide +kernel
theorem dL_vatOf_17 : decode cL_vatOf 17 = .ok (.ireturn, 1) := by decide +kernel
theorem dL_vatOf_18 : decode cL_vatOf 18 = .ok (.iconst 0, 1) := by decide +kernel
theorem dL_vatOf_19 : decode cL_vatOf 19 = .ok (.ireturn, 1) := by decide +kernel
set_option maxRecDepth 20000 in
theorem ggL_offBy_X6_offBy : GoodIn wsL_offBy wsX6_offBy := goodIn_ca (goodIn_ca (goodIn_r _ [7, 8, 9, 10, 6, 11, 12, 13, 14, 15, 16, 17, 18, 19, 20, 21, 22, 23, 24, 25, 26, 27, 28, 29, 30, 31, 32, 33, 34, 35, 36, 37, 38, 39, 40, 41, 42, 43, 44, 45, 46, 47, 48, 49, 50, 51, 52, 53, 54, 55, 56, 57, 58, 59, 60, 61, 62, 63, 64, 65, 66, 67, 68, 69, 70, 71, 72] (by decide +kernel) (by decide +kernel)) (goodIn_sub (fun _ h => List.mem_cons_of_mem _ (List.mem_append_left _ (List.mem_append_right _ h))) (by decide +kernel))) (goodIn_sub (fun _ h => List.mem_cons_of_mem _ (List.mem_append_right _ h)) (by decide +kernel))
set_option maxRecDepth 20000 in
theorem gL_offBy_X6_offBy : GoodIn wsL_offBy (wsV RL 101 RX6 yX6_offBy wsX6_offBy) := goodIn_app (goodIn_of _ (by decide +kernel)) ggL_offBy_X6_offBy
theorem dL_offBy_0 : decode cL_offBy 0 = .ok (.aload_n 2, 1) := by decide +kernel
theorem dL_offBy_1 : decode cL_offBy 1 = .ok (.iconst 0, 1) := by decide +kernel
theorem dL_offBy_2 : decode cL_offBy 2 = .ok (.aload_n 0, 1) := by decide +kernel
theorem dL_offBy_3 : decode cL_offBy 3 = .ok (.iload_n 1, 1) := by decide +kernel
theorem dL_offBy_4 : decode cL_offBy 4 = .ok (.invokevirtual 101, 3) := by decide +kernel
theorem dL_offBy_7 : decode cL_offBy 7 = .ok (.i2l, 1) := by decide +kernel
theorem dL_offBy_8 : decode cL_offBy 8 = .ok (.lastore, 1) := by decide +kernel
theorem dL_offBy_9 : decode cL_offBy 9 = .ok (.goto 9, 3) := by decide +kernel
theorem dL_offBy_12 : decode cL_offBy 12 = .ok (.astore_n 3, 1) := by decide +kernel
theorem dL_offBy_13 : decode cL_offBy 13 = .ok (.iconst 1, 1) := by decide +kernel
theorem dL_offBy_14 : decode cL_offBy 14 = .ok (.ireturn, 1) := by decide +kernel
theorem dL_offBy_15 : decode cL_offBy 15 = .ok (.astore_n 3, 1) := by decide +kernel
theorem dL_offBy_16 : decode cL_offBy 16 = .ok (.iconst 2, 1) := by decide +kernel
theorem dL_offBy_17 : decode cL_offBy 17 = .ok (.ireturn, 1) := by decide +kernel
theorem dL_offBy_18 : decode cL_offBy 18 = .ok (.iconst 0, 1) := by decide +kernel
theorem dL_offBy_19 : decode cL_offBy 19 = .ok (.ireturn, 1) := by decide +kernel
set_option maxRecDepth 20000 in
theorem ggL_distance_X6_distance : GoodIn wsL_distance wsX6_distance := goodIn_ca (goodIn_ca (goodIn_r _ [7, 8, 9, 10, 11, 12, 13, 14, 6, 15, 16, 17, 18, 19, 20, 21, 22, 23, 24, 25, 26, 27, 28, 29, 30, 31, 32, 33, 34, 35, 36, 37, 38, 39, 40, 41, 42, 43, 44, 45, 46, 47, 48, 49, 50, 51, 52, 53] (by decide +kernel) (by decide +kernel)) (goodIn_sub (fun _ h => List.mem_cons_of_mem _ (List.mem_append_left _ (List.mem_append_right _ h))) (by decide +kernel))) (goodIn_sub (fun _ h => List.mem_cons_of_mem _ (List.mem_append_right _ h)) (by decide +kernel))
set_option maxRecDepth 20000 in
theorem gL_distance_X6_distance : GoodIn wsL_distance (wsV RL 104 RX6 yX6_distance wsX6_distance) := goodIn_app (goodIn_of _ (by decide +kernel)) ggL_distance_X6_distance
theorem dL_distance_0 : decode cL_distance 0 = .ok (.aload_n 3, 1) := by decide +kernel
theorem dL_distance_1 : decode cL_distance 1 = .ok (.iconst 0, 1) := by decide +kernel
theorem dL_distance_2 : decode cL_distance 2 = .ok (.aload_n 0, 1) := by decide +kernel
theorem dL_distance_3 : decode cL_distance 3 = .ok (.iload_n 1, 1) := by decide +kernel
theorem dL_distance_4 : decode cL_distance 4 = .ok (.iload_n 2, 1) := by decide +kernel
theorem dL_distance_5 : decode cL_distance 5 = .ok (.invokevirtual 104, 3) := by decide +kernel
theorem dL_distance_8 : decode cL_distance 8 = .ok (.i2l, 1) := by decide +kernel
theorem dL_distance_9 : decode cL_distance 9 = .ok (.lastore, 1) := by decide +kernel
theorem dL_distance_10 : decode cL_distance 10 = .ok (.goto 11, 3) := by decide +kernel
theorem dL_distance_13 : decode cL_distance 13 = .ok (.astore 4, 2) := by decide +kernel
theorem dL_distance_15 : decode cL_distance 15 = .ok (.iconst 1, 1) := by decide +kernel
theorem dL_distance_16 : decode cL_distance 16 = .ok (.ireturn, 1) := by decide +kernel
theorem dL_distance_17 : decode cL_distance 17 = .ok (.astore 4, 2) := by decide +kernel
theorem dL_distance_19 : decode cL_distance 19 = .ok (.iconst 2, 1) := by decide +kernel
theorem dL_distance_20 : decode cL_distance 20 = .ok (.ireturn, 1) := by decide +kernel
theorem dL_distance_21 : decode cL_distance 21 = .ok (.iconst 0, 1) := by decide +kernel
theorem dL_distance_22 : decode cL_distance 22 = .ok (.ireturn, 1) := by decide +kernel
set_option maxRecDepth 20000 in
theorem ggL_nearest_X6_nearest : GoodIn wsL_nearest wsX6_nearest := goodIn_ca (goodIn_ca (goodIn_ca (goodIn_r _ [8, 9, 10, 11, 12, 13, 14, 15, 16, 17, 7, 18, 19, 20, 21, 22, 23, 24, 25, 26, 27, 28, 29, 30, 31, 32, 33, 34, 35, 36, 37, 38, 39, 40, 41, 42, 43, 44, 45, 46, 47, 48, 49, 50, 51, 52, 53, 54, 55, 56, 57, 58, 59, 60, 61] (by decide +kernel) (by decide +kernel)) (goodIn_sub (fun _ h => List.mem_cons_of_mem _ (List.mem_append_left _ (List.mem_append_left _ (List.mem_append_right _ h)))) (by decide +kernel))) (goodIn_sub (fun _ h => List.mem_cons_of_mem _ (List.mem_append_left _ (List.mem_append_right _ h))) (by decide +kernel))) (goodIn_sub (fun _ h => List.mem_cons_of_mem _ (List.mem_append_right _ h)) (by decide +kernel))
set_option maxRecDepth 20000 in
theorem gL_nearest_X6_nearest : GoodIn wsL_nearest (wsV RL 107 RX6 yX6_nearest wsX6_nearest) := goodIn_app (goodIn_of _ (by decide +kernel)) ggL_nearest_X6_nearest
theorem dL_nearest_0 : decode cL_nearest 0 = .ok (.aload_n 2, 1) := by decide +kernel
theorem dL_nearest_1 : decode cL_nearest 1 = .ok (.iconst 0, 1) := by decide +kernel
theorem dL_nearest_2 : decode cL_nearest 2 = .ok (.aload_n 0, 1) := by decide +kernel
theorem dL_nearest_3 : decode cL_nearest 3 = .ok (.iload_n 1, 1) := by decide +kernel
theorem dL_nearest_4 : decode cL_nearest 4 = .ok (.invokevirtual 107, 3) := by decide +kernel
theorem dL_nearest_7 : decode cL_nearest 7 = .ok (.i2l, 1) := by decide +kernel
theorem dL_nearest_8 : decode cL_nearest 8 = .ok (.lastore, 1) := by decide +kernel
theorem dL_nearest_9 : decode cL_nearest 9 = .ok (.goto 12, 3) := by decide +kernel
theorem dL_nearest_12 : decode cL_nearest 12 = .ok (.astore_n 3, 1) := by decide +kernel
theorem dL_nearest_13 : decode cL_nearest 13 = .ok (.iconst 1, 1) := by decide +kernel
theorem dL_nearest_14 : decode cL_nearest 14 = .ok (.ireturn, 1) := by decide +kernel
theorem dL_nearest_15 : decode cL_nearest 15 = .ok (.astore_n 3, 1) := by decide +kernel
theorem dL_nearest_16 : decode cL_nearest 16 = .ok (.iconst 2, 1) := by decide +kernel
theorem dL_nearest_17 : decode cL_nearest 17 = .ok (.ireturn, 1) := by decide +kernel
theorem dL_nearest_18 : decode cL_nearest 18 = .ok (.astore_n 3, 1) := by decide +kernel
theorem dL_nearest_19 : decode cL_nearest 19 = .ok (.iconst 3, 1) := by decide +kernel
theorem dL_nearest_20 : decode cL_nearest 20 = .ok (.ireturn, 1) := by decide +kernel
theorem dL_nearest_21 : decode cL_nearest 21 = .ok (.iconst 0, 1) := by decide +kernel
theorem dL_nearest_22 : decode cL_nearest 22 = .ok (.ireturn, 1) := by decide +kernel
set_option maxRecDepth 20000 in
theorem ggL_byLight_X6_byLight : GoodIn wsL_byLight wsX6_byLight := goodIn_ca (goodIn_r _ [6, 7, 8, 9, 10, 11, 12, 13, 14, 5, 15, 16, 17, 18, 19, 20, 21, 22, 23, 24, 25, 26, 27, 28, 29, 30, 31, 32, 33, 34, 35, 36, 37, 38, 39, 40, 41, 42, 43, 44, 45, 46, 47, 48] (by decide +kernel) (by decide +kernel)) (goodIn_sub (fun _ h => List.mem_cons_of_mem _ (List.mem_append_right _ h)) (by decide +kernel))
set_option maxRecDepth 20000 in
theorem gL_byLight_X6_byLight : GoodIn wsL_byLight (wsV RL 110 RX6 yX6_byLight wsX6_byLight) := goodIn_app (goodIn_of _ (by decide +kernel)) ggL_byLight_X6_byLight
theorem dL_byLight_0 : decode cL_byLight 0 = .ok (.aload_n 2, 1) := by decide +kernel
theorem dL_byLight_1 : decode cL_byLight 1 = .ok (.iconst 0, 1) := by decide +kernel
theorem dL_byLight_2 : decode cL_byLight 2 = .ok (.aload_n 0, 1) := by decide +kernel
theorem dL_byLight_3 : decode cL_byLight 3 = .ok (.iload_n 1, 1) := by decide +kernel
theorem dL_byLight_4 : decode cL_byLight 4 = .ok (.invokevirtual 110, 3) := by decide +kernel
theorem dL_byLight_7 : decode cL_byLight 7 = .ok (.i2l, 1) := by decide +kernel
theorem dL_byLight_8 : decode cL_byLight 8 = .ok (.lastore, 1) := by decide +kernel
theorem dL_byLight_9 : decode cL_byLight 9 = .ok (.goto 6, 3) := by decide +kernel
theorem dL_byLight_12 : decode cL_byLight 12 = .ok (.astore_n 3, 1) := by decide +kernel
theorem dL_byLight_13 : decode cL_byLight 13 = .ok (.iconst 1, 1) := by decide +kernel
theorem dL_byLight_14 : decode cL_byLight 14 = .ok (.ireturn, 1) := by decide +kernel
theorem dL_byLight_15 : decode cL_byLight 15 = .ok (.iconst 0, 1) := by decide +kernel
theorem dL_byLight_16 : decode cL_byLight 16 = .ok (.ireturn, 1) := by decide +kernel
set_option maxRecDepth 20000 in
theorem ggL_clock_X6_clock : GoodIn wsL_clock wsX6_clock := goodIn_ca (goodIn_r _ [6, 7, 8, 9, 10, 5, 11, 12, 13, 14, 15, 16, 17, 18, 19, 20, 21, 22, 23, 24, 25, 26, 27, 28, 29, 30, 31] (by decide +kernel) (by decide +kernel)) (goodIn_sub (fun _ h => List.mem_cons_of_mem _ (List.mem_append_right _ h)) (by decide +kernel))
set_option maxRecDepth 20000 in
theorem gL_clock_X6_clock : GoodIn wsL_clock (wsV RL 113 RX6 yX6_clock wsX6_clock) := goodIn_app (goodIn_of _ (by decide +kernel)) ggL_clock_X6_clock
theorem dL_clock_0 : decode cL_clock 0 = .ok (.aload_n 2, 1) := by decide +kernel
theorem dL_clock_1 : decode cL_clock 1 = .ok (.iconst 0, 1) := by decide +kernel
theorem dL_clock_2 : decode cL_clock 2 = .ok (.aload_n 0, 1) := by decide +kernel
theorem dL_clock_3 : decode cL_clock 3 = .ok (.iload_n 1, 1) := by decide +kernel
theorem dL_clock_4 : decode cL_clock 4 = .ok (.invokevirtual 113, 3) := by decide +kernel
theorem dL_clock_7 : decode cL_clock 7 = .ok (.i2l, 1) := by decide +kernel
theorem dL_clock_8 : decode cL_clock 8 = .ok (.lastore, 1) := by decide +kernel
theorem dL_clock_9 : decode cL_clock 9 = .ok (.goto 6, 3) := by decide +kernel
theorem dL_clock_12 : decode cL_clock 12 = .ok (.astore_n 3, 1) := by decide +kernel
theorem dL_clock_13 : decode cL_clock 13 = .ok (.iconst 1, 1) := by decide +kernel
theorem dL_clock_14 : decode cL_clock 14 = .ok (.ireturn, 1) := by decide +kernel
theorem dL_clock_15 : decode cL_clock 15 = .ok (.iconst 0, 1) := by decide +kernel
theorem dL_clock_16 : decode cL_clock 16 = .ok (.ireturn, 1) := by decide +kernel
set_option maxRecDepth 20000 in
theorem ggL_cleanings_X6_cleanings : GoodIn wsL_cleanings wsX6_cleanings := goodIn_ca (goodIn_r _ [6, 7, 8, 9, 10, 5, 11, 12, 13, 14, 15, 16, 17, 18, 19, 20, 21, 22, 23, 24, 25, 26, 27, 28, 29, 30, 31] (by decide +kernel) (by decide +kernel)) (goodIn_sub (fun _ h => List.mem_cons_of_mem _ (List.mem_append_right _ h)) (by decide +kernel))
set_option maxRecDepth 20000 in
theorem gL_cleanings_X6_cleanings : GoodIn wsL_cleanings (wsV RL 116 RX6 yX6_cleanings wsX6_cleanings) := goodIn_app (goodIn_of _ (by decide +kernel)) ggL_cleanings_X6_cleanings
theorem dL_cleanings_0 : decode cL_cleanings 0 = .ok (.aload_n 2, 1) := by decide +kernel
theorem dL_cleanings_1 : decode cL_cleanings 1 = .ok (.iconst 0, 1) := by decide +kernel
theorem dL_cleanings_2 : decode cL_cleanings 2 = .ok (.aload_n 0, 1) := by decide +kernel
theorem dL_cleanings_3 : decode cL_cleanings 3 = .ok (.iload_n 1, 1) := by decide +kernel
theorem dL_cleanings_4 : decode cL_cleanings 4 = .ok (.invokevirtual 116, 3) := by decide +kernel
theorem dL_cleanings_7 : decode cL_cleanings 7 = .ok (.i2l, 1) := by decide +kernel
theorem dL_cleanings_8 : decode cL_cleanings 8 = .ok (.lastore, 1) := by decide +kernel
theorem dL_cleanings_9 : decode cL_cleanings 9 = .ok (.goto 6, 3) := by decide +kernel
theorem dL_cleanings_12 : decode cL_cleanings 12 = .ok (.astore_n 3, 1) := by decide +kernel
theorem dL_cleanings_13 : decode cL_cleanings 13 = .ok (.iconst 1, 1) := by decide +kernel
theorem dL_cleanings_14 : decode cL_cleanings 14 = .ok (.ireturn, 1) := by decide +kernel
theorem dL_cleanings_15 : decode cL_cleanings 15 = .ok (.iconst 0, 1) := by decide +kernel
theorem dL_cleanings_16 : decode cL_cleanings 16 = .ok (.ireturn, 1) := by decide +kernel
set_option maxRecDepth 20000 in
theorem ggL_lightIn_X6_lightIn : GoodIn wsL_lightIn wsX6_lightIn := goodIn_ca (goodIn_ca (goodIn_r _ [7, 8, 9, 10, 11, 12, 13, 6, 14, 15, 16, 17, 18, 19, 20, 21, 22, 23, 24, 25, 26, 27, 28, 29, 30, 31, 32, 33, 34] (by decide +kernel) (by decide +kernel)) (goodIn_sub (fun _ h => List.mem_cons_of_mem _ (List.mem_append_left _ (List.mem_append_right _ h))) (by decide +kernel))) (goodIn_sub (fun _ h => List.mem_cons_of_mem _ (List.mem_append_right _ h)) (by decide +kernel))
set_option maxRecDepth 20000 in
theorem gL_lightIn_X6_lightIn : GoodIn wsL_lightIn (wsV RL 119 RX6 yX6_lightIn wsX6_lightIn) := goodIn_app (goodIn_of _ (by decide +kernel)) ggL_lightIn_X6_lightIn
theorem dL_lightIn_0 : decode cL_lightIn 0 = .ok (.aload_n 2, 1) := by decide +kernel
theorem dL_lightIn_1 : decode cL_lightIn 1 = .ok (.iconst 0, 1) := by decide +kernel
theorem dL_lightIn_2 : decode cL_lightIn 2 = .ok (.aload_n 0, 1) := by decide +kernel
theorem dL_lightIn_3 : decode cL_lightIn 3 = .ok (.iload_n 1, 1) := by decide +kernel
theorem dL_lightIn_4 : decode cL_lightIn 4 = .ok (.invokevirtual 119, 3) := by decide +kernel
theorem dL_lightIn_7 : decode cL_lightIn 7 = .ok (.i2l, 1) := by decide +kernel
theorem dL_lightIn_8 : decode cL_lightIn 8 = .ok (.lastore, 1) := by decide +kernel
theorem dL_lightIn_9 : decode cL_lightIn 9 = .ok (.goto 9, 3) := by decide +kernel
theorem dL_lightIn_12 : decode cL_lightIn 12 = .ok (.astore_n 3, 1) := by decide +kernel
theorem dL_lightIn_13 : decode cL_lightIn 13 = .ok (.iconst 1, 1) := by decide +kernel
theorem dL_lightIn_14 : decode cL_lightIn 14 = .ok (.ireturn, 1) := by decide +kernel
theorem dL_lightIn_15 : decode cL_lightIn 15 = .ok (.astore_n 3, 1) := by decide +kernel
theorem dL_lightIn_16 : decode cL_lightIn 16 = .ok (.iconst 2, 1) := by decide +kernel
theorem dL_lightIn_17 : decode cL_lightIn 17 = .ok (.ireturn, 1) := by decide +kernel
theorem dL_lightIn_18 : decode cL_lightIn 18 = .ok (.iconst 0, 1) := by decide +kernel
theorem dL_lightIn_19 : decode cL_lightIn 19 = .ok (.ireturn, 1) := by decide +kernel
set_option maxRecDepth 20000 in
theorem ggL_customerOf_X6_customerOf : GoodIn wsL_customerOf wsX6_customerOf := goodIn_ca (goodIn_ca (goodIn_r _ [7, 8, 9, 10, 11, 12, 13, 6, 14, 15, 16, 17, 18, 19, 20, 21, 22, 23, 24, 25, 26, 27, 28, 29, 30, 31, 32, 33, 34] (by decide +kernel) (by decide +kernel)) (goodIn_sub (fun _ h => List.mem_cons_of_mem _ (List.mem_append_left _ (List.mem_append_right _ h))) (by decide +kernel))) (goodIn_sub (fun _ h => List.mem_cons_of_mem _ (List.mem_append_right _ h)) (by decide +kernel))
set_option maxRecDepth 20000 in
theorem gL_customerOf_X6_customerOf : GoodIn wsL_customerOf (wsV RL 122 RX6 yX6_customerOf wsX6_customerOf) := goodIn_app (goodIn_of _ (by decide +kernel)) ggL_customerOf_X6_customerOf
theorem dL_customerOf_0 : decode cL_customerOf 0 = .ok (.aload_n 2, 1) := by decide +kernel
theorem dL_customerOf_1 : decode cL_customerOf 1 = .ok (.iconst 0, 1) := by decide +kernel
theorem dL_customerOf_2 : decode cL_customerOf 2 = .ok (.aload_n 0, 1) := by decide +kernel
theorem dL_customerOf_3 : decode cL_customerOf 3 = .ok (.iload_n 1, 1) := by decide +kernel
theorem dL_customerOf_4 : decode cL_customerOf 4 = .ok (.invokevirtual 122, 3) := by decide +kernel
theorem dL_customerOf_7 : decode cL_customerOf 7 = .ok (.i2l, 1) := by decide +kernel
theorem dL_customerOf_8 : decode cL_customerOf 8 = .ok (.lastore, 1) := by decide +kernel
theorem dL_customerOf_9 : decode cL_customerOf 9 = .ok (.goto 9, 3) := by decide +kernel
theorem dL_customerOf_12 : decode cL_customerOf 12 = .ok (.astore_n 3, 1) := by decide +kernel
theorem dL_customerOf_13 : decode cL_customerOf 13 = .ok (.iconst 1, 1) := by decide +kernel
theorem dL_customerOf_14 : decode cL_customerOf 14 = .ok (.ireturn, 1) := by decide +kernel
theorem dL_customerOf_15 : decode cL_customerOf 15 = .ok (.astore_n 3, 1) := by decide +kernel
theorem dL_customerOf_16 : decode cL_customerOf 16 = .ok (.iconst 2, 1) := by decide +kernel
theorem dL_customerOf_17 : decode cL_customerOf 17 = .ok (.ireturn, 1) := by decide +kernel
theorem dL_customerOf_18 : decode cL_customerOf 18 = .ok (.iconst 0, 1) := by decide +kernel
theorem dL_customerOf_19 : decode cL_customerOf 19 = .ok (.ireturn, 1) := by decide +kernel
set_option maxRecDepth 20000 in
theorem ggL_lotsOf_X6_lotsOf : GoodIn wsL_lotsOf wsX6_lotsOf := goodIn_ca (goodIn_r _ [6, 7, 8, 9, 10, 11, 5, 12, 13, 14, 15, 16, 17, 18, 19, 20, 21, 22, 23, 24, 25, 26, 27, 28, 29, 30, 31, 32, 33, 34, 35] (by decide +kernel) (by decide +kernel)) (goodIn_sub (fun _ h => List.mem_cons_of_mem _ (List.mem_append_right _ h)) (by decide +kernel))
set_option maxRecDepth 20000 in
theorem gL_lotsOf_X6_lotsOf : GoodIn wsL_lotsOf (wsV RL 125 RX6 yX6_lotsOf wsX6_lotsOf) := goodIn_app (goodIn_of _ (by decide +kernel)) ggL_lotsOf_X6_lotsOf
theorem dL_lotsOf_0 : decode cL_lotsOf 0 = .ok (.aload_n 2, 1) := by decide +kernel
theorem dL_lotsOf_1 : decode cL_lotsOf 1 = .ok (.iconst 0, 1) := by decide +kernel
theorem dL_lotsOf_2 : decode cL_lotsOf 2 = .ok (.aload_n 0, 1) := by decide +kernel
theorem dL_lotsOf_3 : decode cL_lotsOf 3 = .ok (.iload_n 1, 1) := by decide +kernel
theorem dL_lotsOf_4 : decode cL_lotsOf 4 = .ok (.invokevirtual 125, 3) := by decide +kernel
theorem dL_lotsOf_7 : decode cL_lotsOf 7 = .ok (.i2l, 1) := by decide +kernel
theorem dL_lotsOf_8 : decode cL_lotsOf 8 = .ok (.lastore, 1) := by decide +kernel
theorem dL_lotsOf_9 : decode cL_lotsOf 9 = .ok (.goto 6, 3) := by decide +kernel
theorem dL_lotsOf_12 : decode cL_lotsOf 12 = .ok (.astore_n 3, 1) := by decide +kernel
theorem dL_lotsOf_13 : decode cL_lotsOf 13 = .ok (.iconst 1, 1) := by decide +kernel
theorem dL_lotsOf_14 : decode cL_lotsOf 14 = .ok (.ireturn, 1) := by decide +kernel
theorem dL_lotsOf_15 : decode cL_lotsOf 15 = .ok (.iconst 0, 1) := by decide +kernel
theorem dL_lotsOf_16 : decode cL_lotsOf 16 = .ok (.ireturn, 1) := by decide +kernel
set_option maxRecDepth 20000 in
theorem ggL_passedOf_X6_passedOf : GoodIn wsL_passedOf wsX6_passedOf := goodIn_ca (goodIn_r _ [6, 7, 8, 9, 10, 5, 11, 12, 13, 14, 15, 16, 17, 18, 19, 20, 21, 22, 23, 24, 25, 26, 27, 28, 29, 30, 31, 32, 33, 34, 35, 36, 37, 38, 39, 40, 41] (by decide +kernel) (by decide +kernel)) (goodIn_sub (fun _ h => List.mem_cons_of_mem _ (List.mem_append_right _ h)) (by decide +kernel))
set_option maxRecDepth 20000 in
theorem gL_passedOf_X6_passedOf : GoodIn wsL_passedOf (wsV RL 128 RX6 yX6_passedOf wsX6_passedOf) := goodIn_app (goodIn_of _ (by decide +kernel)) ggL_passedOf_X6_passedOf
theorem dL_passedOf_0 : decode cL_passedOf 0 = .ok (.aload_n 2, 1) := by decide +kernel
theorem dL_passedOf_1 : decode cL_passedOf 1 = .ok (.iconst 0, 1) := by decide +kernel
theorem dL_passedOf_2 : decode cL_passedOf 2 = .ok (.aload_n 0, 1) := by decide +kernel
theorem dL_passedOf_3 : decode cL_passedOf 3 = .ok (.iload_n 1, 1) := by decide +kernel
theorem dL_passedOf_4 : decode cL_passedOf 4 = .ok (.invokevirtual 128, 3) := by decide +kernel
theorem dL_passedOf_7 : decode cL_passedOf 7 = .ok (.i2l, 1) := by decide +kernel
theorem dL_passedOf_8 : decode cL_passedOf 8 = .ok (.lastore, 1) := by decide +kernel
theorem dL_passedOf_9 : decode cL_passedOf 9 = .ok (.goto 6, 3) := by decide +kernel
theorem dL_passedOf_12 : decode cL_passedOf 12 = .ok (.astore_n 3, 1) := by decide +kernel
theorem dL_passedOf_13 : decode cL_passedOf 13 = .ok (.iconst 1, 1) := by decide +kernel
theorem dL_passedOf_14 : decode cL_passedOf 14 = .ok (.ireturn, 1) := by decide +kernel
theorem dL_passedOf_15 : decode cL_passedOf 15 = .ok (.iconst 0, 1) := by decide +kernel
theorem dL_passedOf_16 : decode cL_passedOf 16 = .ok (.ireturn, 1) := by decide +kernel
set_option maxRecDepth 20000 in
theorem ggL_spread_X6_spread : GoodIn wsL_spread wsX6_spread := goodIn_ca (goodIn_r _ [6, 7, 8, 9, 10, 11, 12, 13, 14, 5, 15, 16, 17, 18, 19, 20, 21, 22, 23, 24, 25, 26, 27, 28, 29, 30, 31, 32, 33, 34, 35, 36, 37, 38, 39, 40, 41, 42, 43, 44, 45, 46, 47, 48, 49, 50, 51, 52, 53, 54, 55, 56, 57, 58, 59, 60, 61, 62, 63, 64, 65] (by decide +kernel) (by decide +kernel)) (goodIn_sub (fun _ h => List.mem_cons_of_mem _ (List.mem_append_right _ h)) (by decide +kernel))
set_option maxRecDepth 20000 in
theorem gL_spread_X6_spread : GoodIn wsL_spread (wsV RL 131 RX6 yX6_spread wsX6_spread) := goodIn_app (goodIn_of _ (by decide +kernel)) ggL_spread_X6_spread
theorem dL_spread_0 : decode cL_spread 0 = .ok (.aload_n 2, 1) := by decide +kernel
theorem dL_spread_1 : decode cL_spread 1 = .ok (.iconst 0, 1) := by decide +kernel
theorem dL_spread_2 : decode cL_spread 2 = .ok (.aload_n 0, 1) := by decide +kernel
theorem dL_spread_3 : decode cL_spread 3 = .ok (.iload_n 1, 1) := by decide +kernel
theorem dL_spread_4 : decode cL_spread 4 = .ok (.invokevirtual 131, 3) := by decide +kernel
theorem dL_spread_7 : decode cL_spread 7 = .ok (.i2l, 1) := by decide +kernel
theorem dL_spread_8 : decode cL_spread 8 = .ok (.lastore, 1) := by decide +kernel
theorem dL_spread_9 : decode cL_spread 9 = .ok (.goto 6, 3) := by decide +kernel
theorem dL_spread_12 : decode cL_spread 12 = .ok (.astore_n 3, 1) := by decide +kernel
theorem dL_spread_13 : decode cL_spread 13 = .ok (.iconst 1, 1) := by decide +kernel
theorem dL_spread_14 : decode cL_spread 14 = .ok (.ireturn, 1) := by decide +kernel
theorem dL_spread_15 : decode cL_spread 15 = .ok (.iconst 0, 1) := by decide +kernel
theorem dL_spread_16 : decode cL_spread 16 = .ok (.ireturn, 1) := by decide +kernel
set_option maxRecDepth 20000 in
theorem ggL_lateBy_X6_lateBy : GoodIn wsL_lateBy wsX6_lateBy := goodIn_ca (goodIn_r _ [6, 7, 8, 9, 5, 10, 11, 12, 13, 14, 15, 16, 17, 18, 19, 20, 21, 22, 23, 24, 25, 26, 27, 28, 29, 30, 31, 32, 33, 34, 35, 36, 37, 38, 39, 40, 41, 42, 43, 44, 45, 46, 47, 48, 49, 50, 51] (by decide +kernel) (by decide +kernel)) (goodIn_sub (fun _ h => List.mem_cons_of_mem _ (List.mem_append_right _ h)) (by decide +kernel))
set_option maxRecDepth 20000 in
theorem gL_lateBy_X6_lateBy : GoodIn wsL_lateBy (wsV RL 134 RX6 yX6_lateBy wsX6_lateBy) := goodIn_app (goodIn_of _ (by decide +kernel)) ggL_lateBy_X6_lateBy
theorem dL_lateBy_0 : decode cL_lateBy 0 = .ok (.aload_n 2, 1) := by decide +kernel
theorem dL_lateBy_1 : decode cL_lateBy 1 = .ok (.iconst 0, 1) := by decide +kernel
theorem dL_lateBy_2 : decode cL_lateBy 2 = .ok (.aload_n 0, 1) := by decide +kernel
theorem dL_lateBy_3 : decode cL_lateBy 3 = .ok (.iload_n 1, 1) := by decide +kernel
theorem dL_lateBy_4 : decode cL_lateBy 4 = .ok (.invokevirtual 134, 3) := by decide +kernel
theorem dL_lateBy_7 : decode cL_lateBy 7 = .ok (.i2l, 1) := by decide +kernel
theorem dL_lateBy_8 : decode cL_lateBy 8 = .ok (.lastore, 1) := by decide +kernel
theorem dL_lateBy_9 : decode cL_lateBy 9 = .ok (.goto 6, 3) := by decide +kernel
theorem dL_lateBy_12 : decode cL_lateBy 12 = .ok (.astore_n 3, 1) := by decide +kernel
theorem dL_lateBy_13 : decode cL_lateBy 13 = .ok (.iconst 1, 1) := by decide +kernel
theorem dL_lateBy_14 : decode cL_lateBy 14 = .ok (.ireturn, 1) := by decide +kernel
theorem dL_lateBy_15 : decode cL_lateBy 15 = .ok (.iconst 0, 1) := by decide +kernel
theorem dL_lateBy_16 : decode cL_lateBy 16 = .ok (.ireturn, 1) := by decide +kernel
set_option maxRecDepth 20000 in
theorem ggL_due_X6_due : GoodIn wsL_due wsX6_due := goodIn_ca (goodIn_r _ [6, 7, 8, 9, 5, 10, 11, 12, 13, 14, 15, 16, 17, 18, 19, 20, 21, 22, 23, 24, 25, 26, 27, 28, 29, 30, 31, 32, 33, 34, 35, 36, 37, 38, 39, 40, 41, 42, 43, 44, 45, 46, 47, 48, 49, 50, 51, 52, 53, 54, 55, 56, 57, 58, 59, 60, 61, 62, 63, 64] (by decide +kernel) (by decide +kernel)) (goodIn_sub (fun _ h => List.mem_cons_of_mem _ (List.mem_append_right _ h)) (by decide +kernel))
set_option maxRecDepth 20000 in
theorem gL_due_X6_due : GoodIn wsL_due (wsV RL 137 RX6 yX6_due wsX6_due) := goodIn_app (goodIn_of _ (by decide +kernel)) ggL_due_X6_due
theorem dL_due_0 : decode cL_due 0 = .ok (.aload_n 2, 1) := by decide +kernel
theorem dL_due_1 : decode cL_due 1 = .ok (.iconst 0, 1) := by decide +kernel
theorem dL_due_2 : decode cL_due 2 = .ok (.aload_n 0, 1) := by decide +kernel
theorem dL_due_3 : decode cL_due 3 = .ok (.iload_n 1, 1) := by decide +kernel
theorem dL_due_4 : decode cL_due 4 = .ok (.invokevirtual 137, 3) := by decide +kernel
theorem dL_due_7 : decode cL_due 7 = .ok (.i2l, 1) := by decide +kernel
theorem dL_due_8 : decode cL_due 8 = .ok (.lastore, 1) := by decide +kernel
theorem dL_due_9 : decode cL_due 9 = .ok (.goto 6, 3) := by decide +kernel
theorem dL_due_12 : decode cL_due 12 = .ok (.astore_n 3, 1) := by decide +kernel
theorem dL_due_13 : decode cL_due 13 = .ok (.iconst 1, 1) := by decide +kernel
theorem dL_due_14 : decode cL_due 14 = .ok (.ireturn, 1) := by decide +kernel
theorem dL_due_15 : decode cL_due 15 = .ok (.iconst 0, 1) := by decide +kernel
theorem dL_due_16 : decode cL_due 16 = .ok (.ireturn, 1) := by decide +kernel
set_option maxRecDepth 20000 in
theorem ggL_dues_X6_dues : GoodIn wsL_dues wsX6_dues := goodIn_ca (goodIn_r _ [6, 7, 8, 9, 10, 5, 11, 12, 13, 14, 15, 16, 17, 18, 19, 20, 21, 22, 23, 24, 25, 26, 27, 28, 29, 30, 31, 32, 33, 34, 35, 36, 37, 38, 39, 40, 41, 42, 43, 44, 45, 46, 47, 48, 49, 50, 51, 52, 53, 54, 55, 56, 57, 58, 59, 60, 61, 62, 63, 64, 65, 66, 67] (by decide +kernel) (by decide +kernel)) (goodIn_sub (fun _ h => List.mem_cons_of_mem _ (List.mem_append_right _ h)) (by decide +kernel))
set_option maxRecDepth 20000 in
theorem gL_dues_X6_dues : GoodIn wsL_dues (wsV RL 140 RX6 yX6_dues wsX6_dues) := goodIn_app (goodIn_of _ (by decide +kernel)) ggL_dues_X6_dues
theorem dL_dues_0 : decode cL_dues 0 = .ok (.aload_n 2, 1) := by decide +kernel
theorem dL_dues_1 : decode cL_dues 1 = .ok (.iconst 0, 1) := by decide +kernel
theorem dL_dues_2 : decode cL_dues 2 = .ok (.aload_n 0, 1) := by decide +kernel
theorem dL_dues_3 : decode cL_dues 3 = .ok (.iload_n 1, 1) := by decide +kernel
theorem dL_dues_4 : decode cL_dues 4 = .ok (.invokevirtual 140, 3) := by decide +kernel
theorem dL_dues_7 : decode cL_dues 7 = .ok (.lastore, 1) := by decide +kernel
theorem dL_dues_8 : decode cL_dues 8 = .ok (.goto 6, 3) := by decide +kernel
theorem dL_dues_11 : decode cL_dues 11 = .ok (.astore_n 3, 1) := by decide +kernel
theorem dL_dues_12 : decode cL_dues 12 = .ok (.iconst 1, 1) := by decide +kernel
theorem dL_dues_13 : decode cL_dues 13 = .ok (.ireturn, 1) := by decide +kernel
theorem dL_dues_14 : decode cL_dues 14 = .ok (.iconst 0, 1) := by decide +kernel
theorem dL_dues_15 : decode cL_dues 15 = .ok (.ireturn, 1) := by decide +kernel
set_option maxRecDepth 20000 in
theorem ggL_used_X6_used : GoodIn wsL_used wsX6_used := goodIn_ca (goodIn_ca (goodIn_r _ [6, 7, 8, 9, 5, 10, 11, 12, 13, 14, 15, 16, 17, 18, 19, 20, 21, 22, 23, 24, 25, 26] (by decide +kernel) (by decide +kernel)) (goodIn_sub (fun _ h => List.mem_cons_of_mem _ (List.mem_append_left _ (List.mem_append_right _ h))) (by decide +kernel))) (goodIn_sub (fun _ h => List.mem_cons_of_mem _ (List.mem_append_right _ h)) (by decide +kernel))
set_option maxRecDepth 20000 in
theorem gL_used_X6_used : GoodIn wsL_used (wsV RL 144 RX6 yX6_used wsX6_used) := goodIn_app (goodIn_of _ (by decide +kernel)) ggL_used_X6_used
theorem dL_used_0 : decode cL_used 0 = .ok (.aload_n 2, 1) := by decide +kernel
theorem dL_used_1 : decode cL_used 1 = .ok (.iconst 0, 1) := by decide +kernel
theorem dL_used_2 : decode cL_used 2 = .ok (.aload_n 0, 1) := by decide +kernel
theorem dL_used_3 : decode cL_used 3 = .ok (.iload_n 1, 1) := by decide +kernel
theorem dL_used_4 : decode cL_used 4 = .ok (.invokevirtual 144, 3) := by decide +kernel
theorem dL_used_7 : decode cL_used 7 = .ok (.lastore, 1) := by decide +kernel
theorem dL_used_8 : decode cL_used 8 = .ok (.goto 6, 3) := by decide +kernel
theorem dL_used_11 : decode cL_used 11 = .ok (.astore_n 3, 1) := by decide +kernel
theorem dL_used_12 : decode cL_used 12 = .ok (.iconst 1, 1) := by decide +kernel
theorem dL_used_13 : decode cL_used 13 = .ok (.ireturn, 1) := by decide +kernel
theorem dL_used_14 : decode cL_used 14 = .ok (.iconst 0, 1) := by decide +kernel
theorem dL_used_15 : decode cL_used 15 = .ok (.ireturn, 1) := by decide +kernel
set_option maxRecDepth 20000 in
theorem ggL_passedShare_X6_passedShare : GoodIn wsL_passedShare wsX6_passedShare := goodIn_ca (goodIn_r _ [6, 7, 8, 9, 10, 11, 5, 12, 13, 14, 15, 16, 17, 18, 19, 20, 21, 22, 23, 24, 25, 26, 27, 28, 29, 30, 31, 32, 33, 34] (by decide +kernel) (by decide +kernel)) (goodIn_sub (fun _ h => List.mem_cons_of_mem _ (List.mem_append_right _ h)) (by decide +kernel))
set_option maxRecDepth 20000 in
theorem gL_passedShare_X6_passedShare : GoodIn wsL_passedShare (wsV RL 147 RX6 yX6_passedShare wsX6_passedShare) := goodIn_app (goodIn_of _ (by decide +kernel)) ggL_passedShare_X6_passedShare
theorem dL_passedShare_0 : decode cL_passedShare 0 = .ok (.aload_n 1, 1) := by decide +kernel
theorem dL_passedShare_1 : decode cL_passedShare 1 = .ok (.iconst 0, 1) := by decide +kernel
theorem dL_passedShare_2 : decode cL_passedShare 2 = .ok (.aload_n 0, 1) := by decide +kernel
theorem dL_passedShare_3 : decode cL_passedShare 3 = .ok (.invokevirtual 147, 3) := by decide +kernel
theorem dL_passedShare_6 : decode cL_passedShare 6 = .ok (.f2d, 1) := by decide +kernel
theorem dL_passedShare_7 : decode cL_passedShare 7 = .ok (.dastore, 1) := by decide +kernel
theorem dL_passedShare_8 : decode cL_passedShare 8 = .ok (.goto 6, 3) := by decide +kernel
theorem dL_passedShare_11 : decode cL_passedShare 11 = .ok (.astore_n 2, 1) := by decide +kernel
theorem dL_passedShare_12 : decode cL_passedShare 12 = .ok (.iconst 1, 1) := by decide +kernel
theorem dL_passedShare_13 : decode cL_passedShare 13 = .ok (.ireturn, 1) := by decide +kernel
theorem dL_passedShare_14 : decode cL_passedShare 14 = .ok (.iconst 0, 1) := by decide +kernel
theorem dL_passedShare_15 : decode cL_passedShare 15 = .ok (.ireturn, 1) := by decide +kernel
set_option maxRecDepth 20000 in
theorem ggL_meanOff_X6_meanOff : GoodIn wsL_meanOff wsX6_meanOff := goodIn_ca (goodIn_r _ [6, 7, 8, 9, 10, 11, 12, 13, 14, 15, 16, 17, 18, 19, 20, 21, 22, 23, 24, 25, 26, 27, 28, 29, 30, 31, 32, 33, 34, 35, 36, 37, 38, 39, 40, 41, 42, 43, 44, 45, 46, 47, 48, 49, 50, 51, 52, 53, 54, 55, 56, 57, 58, 59, 60, 61] (by decide +kernel) (by decide +kernel)) (goodIn_sub (fun _ h => List.mem_cons_of_mem _ (List.mem_append_right _ h)) (by decide +kernel))
set_option maxRecDepth 20000 in
theorem gL_meanOff_X6_meanOff : GoodIn wsL_meanOff (wsV RL 153 RX6 yX6_meanOff wsX6_meanOff) := goodIn_app (goodIn_of _ (by decide +kernel)) ggL_meanOff_X6_meanOff
theorem dL_meanOff_0 : decode cL_meanOff 0 = .ok (.aload_n 1, 1) := by decide +kernel
theorem dL_meanOff_1 : decode cL_meanOff 1 = .ok (.iconst 0, 1) := by decide +kernel
theorem dL_meanOff_2 : decode cL_meanOff 2 = .ok (.aload_n 0, 1) := by decide +kernel
theorem dL_meanOff_3 : decode cL_meanOff 3 = .ok (.invokevirtual 153, 3) := by decide +kernel
theorem dL_meanOff_6 : decode cL_meanOff 6 = .ok (.dastore, 1) := by decide +kernel
theorem dL_meanOff_7 : decode cL_meanOff 7 = .ok (.goto 6, 3) := by decide +kernel
theorem dL_meanOff_10 : decode cL_meanOff 10 = .ok (.astore_n 2, 1) := by decide +kernel
theorem dL_meanOff_11 : decode cL_meanOff 11 = .ok (.iconst 1, 1) := by decide +kernel
theorem dL_meanOff_12 : decode cL_meanOff 12 = .ok (.ireturn, 1) := by decide +kernel
theorem dL_meanOff_13 : decode cL_meanOff 13 = .ok (.iconst 0, 1) := by decide +kernel
theorem dL_meanOff_14 : decode cL_meanOff 14 = .ok (.ireturn, 1) := by decide +kernel
