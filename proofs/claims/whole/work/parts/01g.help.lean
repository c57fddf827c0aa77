set_option maxRecDepth 20000 in
theorem ggL_setNeed_X2_setNeed : GoodIn wsL_setNeed wsX2_setNeed := goodIn_ca (goodIn_ca (goodIn_r _ [7, 8, 9, 10, 11, 12, 13, 14, 6, 15, 16, 17, 18, 19, 20, 21, 22, 23, 24, 25, 26, 27, 28, 29] (by decide +kernel) (by decide +kernel)) (goodIn_sub (fun _ h => List.mem_cons_of_mem _ (List.mem_append_left _ (List.mem_append_right _ h))) (by decide +kernel))) (goodIn_sub (fun _ h => List.mem_cons_of_mem _ (List.mem_append_right _ h)) (by decide +kernel))
set_option maxRecDepth 20000 in
theorem gL_setNeed_X2_setNeed : GoodIn wsL_setNeed (wsV RL 7 RX2 yX2_setNeed wsX2_setNeed) := goodIn_app (goodIn_of _ (by decide +kernel)) ggL_setNeed_X2_setNeed
theorem dL_setNeed_0 : decode cL_setNeed 0 = .ok (.aload 4, 2) := by decide +kernel
theorem dL_setNeed_2 : decode cL_setNeed 2 = .ok (.iconst 0, 1) := by decide +kernel
theorem dL_setNeed_3 : decode cL_setNeed 3 = .ok (.aload_n 0, 1) := by decide +kernel
theorem dL_setNeed_4 : decode cL_setNeed 4 = .ok (.iload_n 1, 1) := by decide +kernel
theorem dL_setNeed_5 : decode cL_setNeed 5 = .ok (.iload_n 2, 1) := by decide +kernel
theorem dL_setNeed_6 : decode cL_setNeed 6 = .ok (.iload_n 3, 1) := by decide +kernel
theorem dL_setNeed_7 : decode cL_setNeed 7 = .ok (.invokevirtual 7, 3) := by decide +kernel
theorem dL_setNeed_10 : decode cL_setNeed 10 = .ok (.i2l, 1) := by decide +kernel
theorem dL_setNeed_11 : decode cL_setNeed 11 = .ok (.lastore, 1) := by decide +kernel
theorem dL_setNeed_12 : decode cL_setNeed 12 = .ok (.goto 11, 3) := by decide +kernel
theorem dL_setNeed_15 : decode cL_setNeed 15 = .ok (.astore 5, 2) := by decide +kernel
theorem dL_setNeed_17 : decode cL_setNeed 17 = .ok (.iconst 1, 1) := by decide +kernel
theorem dL_setNeed_18 : decode cL_setNeed 18 = .ok (.ireturn, 1) := by decide +kernel
theorem dL_setNeed_19 : decode cL_setNeed 19 = .ok (.astore 5, 2) := by decide +kernel
theorem dL_setNeed_21 : decode cL_setNeed 21 = .ok (.iconst 2, 1) := by decide +kernel
theorem dL_setNeed_22 : decode cL_setNeed 22 = .ok (.ireturn, 1) := by decide +kernel
theorem dL_setNeed_23 : decode cL_setNeed 23 = .ok (.iconst 0, 1) := by decide +kernel
theorem dL_setNeed_24 : decode cL_setNeed 24 = .ok (.ireturn, 1) := by decide +kernel
set_option maxRecDepth 20000 in
theorem ggL_setCrop_X2_setCrop : GoodIn wsL_setCrop wsX2_setCrop := goodIn_ca (goodIn_ca (goodIn_r _ [7, 8, 9, 10, 11, 12, 6, 13, 14, 15, 16, 17, 18, 19, 20, 21, 22, 23, 24, 25, 26, 27, 28, 29] (by decide +kernel) (by decide +kernel)) (goodIn_sub (fun _ h => List.mem_cons_of_mem _ (List.mem_append_left _ (List.mem_append_right _ h))) (by decide +kernel))) (goodIn_sub (fun _ h => List.mem_cons_of_mem _ (List.mem_append_right _ h)) (by decide +kernel))
set_option maxRecDepth 20000 in
theorem gL_setCrop_X2_setCrop : GoodIn wsL_setCrop (wsV RL 17 RX2 yX2_setCrop wsX2_setCrop) := goodIn_app (goodIn_of _ (by decide +kernel)) ggL_setCrop_X2_setCrop
theorem dL_setCrop_0 : decode cL_setCrop 0 = .ok (.aload 4, 2) := by decide +kernel
theorem dL_setCrop_2 : decode cL_setCrop 2 = .ok (.iconst 0, 1) := by decide +kernel
theorem dL_setCrop_3 : decode cL_setCrop 3 = .ok (.aload_n 0, 1) := by decide +kernel
theorem dL_setCrop_4 : decode cL_setCrop 4 = .ok (.iload_n 1, 1) := by decide +kernel
theorem dL_setCrop_5 : decode cL_setCrop 5 = .ok (.iload_n 2, 1) := by decide +kernel
theorem dL_setCrop_6 : decode cL_setCrop 6 = .ok (.iload_n 3, 1) := by decide +kernel
theorem dL_setCrop_7 : decode cL_setCrop 7 = .ok (.invokevirtual 17, 3) := by decide +kernel
theorem dL_setCrop_10 : decode cL_setCrop 10 = .ok (.i2l, 1) := by decide +kernel
theorem dL_setCrop_11 : decode cL_setCrop 11 = .ok (.lastore, 1) := by decide +kernel
theorem dL_setCrop_12 : decode cL_setCrop 12 = .ok (.goto 11, 3) := by decide +kernel
theorem dL_setCrop_15 : decode cL_setCrop 15 = .ok (.astore 5, 2) := by decide +kernel
theorem dL_setCrop_17 : decode cL_setCrop 17 = .ok (.iconst 1, 1) := by decide +kernel
theorem dL_setCrop_18 : decode cL_setCrop 18 = .ok (.ireturn, 1) := by decide +kernel
theorem dL_setCrop_19 : decode cL_setCrop 19 = .ok (.astore 5, 2) := by decide +kernel
theorem dL_setCrop_21 : decode cL_setCrop 21 = .ok (.iconst 2, 1) := by decide +kernel
theorem dL_setCrop_22 : decode cL_setCrop 22 = .ok (.ireturn, 1) := by decide +kernel
theorem dL_setCrop_23 : decode cL_setCrop 23 = .ok (.iconst 0, 1) := by decide +kernel
theorem dL_setCrop_24 : decode cL_setCrop 24 = .ok (.ireturn, 1) := by decide +kernel
set_option maxRecDepth 20000 in
theorem ggL_add_X2_add : GoodIn wsL_add wsX2_add := goodIn_ca (goodIn_ca (goodIn_r _ [7, 8, 9, 10, 11, 12, 13, 14, 6, 15, 16, 17, 18, 19, 20, 21, 22, 23, 24, 25, 26, 27, 28, 29, 30, 31, 32, 33, 34, 35, 36, 37, 38, 39] (by decide +kernel) (by decide +kernel)) (goodIn_sub (fun _ h => List.mem_cons_of_mem _ (List.mem_append_left _ (List.mem_append_right _ h))) (by decide +kernel))) (goodIn_sub (fun _ h => List.mem_cons_of_mem _ (List.mem_append_right _ h)) (by decide +kernel))
set_option maxRecDepth 20000 in
theorem gL_add_X2_add : GoodIn wsL_add (wsV RL 20 RX2 yX2_add wsX2_add) := goodIn_app (goodIn_of _ (by decide +kernel)) ggL_add_X2_add
theorem dL_add_0 : decode cL_add 0 = .ok (.aload_n 2, 1) := by decide +kernel
theorem dL_add_1 : decode cL_add 1 = .ok (.iconst 0, 1) := by decide +kernel
theorem dL_add_2 : decode cL_add 2 = .ok (.aload_n 0, 1) := by decide +kernel
theorem dL_add_3 : decode cL_add 3 = .ok (.iload_n 1, 1) := by decide +kernel
theorem dL_add_4 : decode cL_add 4 = .ok (.invokevirtual 20, 3) := by decide +kernel
theorem dL_add_7 : decode cL_add 7 = .ok (.i2l, 1) := by decide +kernel
theorem dL_add_8 : decode cL_add 8 = .ok (.lastore, 1) := by decide +kernel
theorem dL_add_9 : decode cL_add 9 = .ok (.goto 9, 3) := by decide +kernel
theorem dL_add_12 : decode cL_add 12 = .ok (.astore_n 3, 1) := by decide +kernel
theorem dL_add_13 : decode cL_add 13 = .ok (.iconst 1, 1) := by decide +kernel
theorem dL_add_14 : decode cL_add 14 = .ok (.ireturn, 1) := by decide +kernel
theorem dL_add_15 : decode cL_add 15 = .ok (.astore_n 3, 1) := by decide +kernel
theorem dL_add_16 : decode cL_add 16 = .ok (.iconst 2, 1) := by decide +kernel
theorem dL_add_17 : decode cL_add 17 = .ok (.ireturn, 1) := by decide +kernel
theorem dL_add_18 : decode cL_add 18 = .ok (.iconst 0, 1) := by decide +kernel
theorem dL_add_19 : decode cL_add 19 = .ok (.ireturn, 1) := by decide +kernel
set_option maxRecDepth 20000 in
theorem ggL_plant_X2_plant : GoodIn wsL_plant wsX2_plant := goodIn_ca (goodIn_ca (goodIn_ca (goodIn_r _ [8, 9, 10, 11, 12, 13, 14, 15, 16, 7, 17, 18, 19, 20, 21, 22, 23, 24, 25, 26, 27, 28, 29, 30, 31, 32, 33, 34, 35, 36, 37, 38, 39, 40, 41, 42, 43, 44, 45, 46, 47, 48, 49, 50, 51, 52, 53, 54, 55, 56, 57, 58, 59, 60, 61, 62, 63, 64, 65, 66, 67, 68, 69, 70, 71, 72, 73] (by decide +kernel) (by decide +kernel)) (goodIn_sub (fun _ h => List.mem_cons_of_mem _ (List.mem_append_left _ (List.mem_append_left _ (List.mem_append_right _ h)))) (by decide +kernel))) (goodIn_sub (fun _ h => List.mem_cons_of_mem _ (List.mem_append_left _ (List.mem_append_right _ h))) (by decide +kernel))) (goodIn_sub (fun _ h => List.mem_cons_of_mem _ (List.mem_append_right _ h)) (by decide +kernel))
set_option maxRecDepth 20000 in
theorem gL_plant_X2_plant : GoodIn wsL_plant (wsV RL 26 RX2 yX2_plant wsX2_plant) := goodIn_app (goodIn_of _ (by decide +kernel)) ggL_plant_X2_plant
theorem dL_plant_0 : decode cL_plant 0 = .ok (.aload 4, 2) := by decide +kernel
theorem dL_plant_2 : decode cL_plant 2 = .ok (.iconst 0, 1) := by decide +kernel
theorem dL_plant_3 : decode cL_plant 3 = .ok (.aload_n 0, 1) := by decide +kernel
theorem dL_plant_4 : decode cL_plant 4 = .ok (.iload_n 1, 1) := by decide +kernel
theorem dL_plant_5 : decode cL_plant 5 = .ok (.iload_n 2, 1) := by decide +kernel
theorem dL_plant_6 : decode cL_plant 6 = .ok (.iload_n 3, 1) := by decide +kernel
theorem dL_plant_7 : decode cL_plant 7 = .ok (.invokevirtual 26, 3) := by decide +kernel
theorem dL_plant_10 : decode cL_plant 10 = .ok (.i2l, 1) := by decide +kernel
theorem dL_plant_11 : decode cL_plant 11 = .ok (.lastore, 1) := by decide +kernel
theorem dL_plant_12 : decode cL_plant 12 = .ok (.goto 15, 3) := by decide +kernel
theorem dL_plant_15 : decode cL_plant 15 = .ok (.astore 5, 2) := by decide +kernel
theorem dL_plant_17 : decode cL_plant 17 = .ok (.iconst 1, 1) := by decide +kernel
theorem dL_plant_18 : decode cL_plant 18 = .ok (.ireturn, 1) := by decide +kernel
theorem dL_plant_19 : decode cL_plant 19 = .ok (.astore 5, 2) := by decide +kernel
theorem dL_plant_21 : decode cL_plant 21 = .ok (.iconst 2, 1) := by decide +kernel
theorem dL_plant_22 : decode cL_plant 22 = .ok (.ireturn, 1) := by decide +kernel
theorem dL_plant_23 : decode cL_plant 23 = .ok (.astore 5, 2) := by decide +kernel
theorem dL_plant_25 : decode cL_plant 25 = .ok (.iconst 3, 1) := by decide +kernel
theorem dL_plant_26 : decode cL_plant 26 = .ok (.ireturn, 1) := by decide +kernel
theorem dL_plant_27 : decode cL_plant 27 = .ok (.iconst 0, 1) := by decide +kernel
theorem dL_plant_28 : decode cL_plant 28 = .ok (.ireturn, 1) := by decide +kernel
set_option maxRecDepth 20000 in
theorem ggL_cover_X2_cover : GoodIn wsL_cover wsX2_cover := goodIn_ca (goodIn_ca (goodIn_ca (goodIn_r _ [8, 9, 10, 11, 12, 13, 7, 14, 15, 16, 17, 18, 19, 20, 21, 22, 23, 24, 25, 26, 27, 28, 29, 30, 31, 32, 33, 34, 35, 36, 37, 38, 39, 40, 41, 42, 43, 44, 45, 46, 47, 48, 49, 50, 51, 52, 53, 54, 55, 56] (by decide +kernel) (by decide +kernel)) (goodIn_sub (fun _ h => List.mem_cons_of_mem _ (List.mem_append_left _ (List.mem_append_left _ (List.mem_append_right _ h)))) (by decide +kernel))) (goodIn_sub (fun _ h => List.mem_cons_of_mem _ (List.mem_append_left _ (List.mem_append_right _ h))) (by decide +kernel))) (goodIn_sub (fun _ h => List.mem_cons_of_mem _ (List.mem_append_right _ h)) (by decide +kernel))
set_option maxRecDepth 20000 in
theorem gL_cover_X2_cover : GoodIn wsL_cover (wsV RL 29 RX2 yX2_cover wsX2_cover) := goodIn_app (goodIn_of _ (by decide +kernel)) ggL_cover_X2_cover
theorem dL_cover_0 : decode cL_cover 0 = .ok (.aload_n 3, 1) := by decide +kernel
theorem dL_cover_1 : decode cL_cover 1 = .ok (.iconst 0, 1) := by decide +kernel
theorem dL_cover_2 : decode cL_cover 2 = .ok (.aload_n 0, 1) := by decide +kernel
theorem dL_cover_3 : decode cL_cover 3 = .ok (.iload_n 1, 1) := by decide +kernel
theorem dL_cover_4 : decode cL_cover 4 = .ok (.iload_n 2, 1) := by decide +kernel
theorem dL_cover_5 : decode cL_cover 5 = .ok (.invokevirtual 29, 3) := by decide +kernel
theorem dL_cover_8 : decode cL_cover 8 = .ok (.i2l, 1) := by decide +kernel
theorem dL_cover_9 : decode cL_cover 9 = .ok (.lastore, 1) := by decide +kernel
theorem dL_cover_10 : decode cL_cover 10 = .ok (.goto 15, 3) := by decide +kernel
theorem dL_cover_13 : decode cL_cover 13 = .ok (.astore 4, 2) := by decide +kernel
theorem dL_cover_15 : decode cL_cover 15 = .ok (.iconst 1, 1) := by decide +kernel
theorem dL_cover_16 : decode cL_cover 16 = .ok (.ireturn, 1) := by decide +kernel
theorem dL_cover_17 : decode cL_cover 17 = .ok (.astore 4, 2) := by decide +kernel
theorem dL_cover_19 : decode cL_cover 19 = .ok (.iconst 2, 1) := by decide +kernel
theorem dL_cover_20 : decode cL_cover 20 = .ok (.ireturn, 1) := by decide +kernel
theorem dL_cover_21 : decode cL_cover 21 = .ok (.astore 4, 2) := by decide +kernel
theorem dL_cover_23 : decode cL_cover 23 = .ok (.iconst 3, 1) := by decide +kernel
theorem dL_cover_24 : decode cL_cover 24 = .ok (.ireturn, 1) := by decide +kernel
theorem dL_cover_25 : decode cL_cover 25 = .ok (.iconst 0, 1) := by decide +kernel
theorem dL_cover_26 : decode cL_cover 26 = .ok (.ireturn, 1) := by decide +kernel
set_option maxRecDepth 20000 in
theorem ggL_draw_X2_draw : GoodIn wsL_draw wsX2_draw := goodIn_ca (goodIn_ca (goodIn_ca (goodIn_r _ [8, 9, 10, 11, 12, 13, 14, 7, 15, 16, 17, 18, 19, 20, 21, 22, 23, 24, 25, 26, 27, 28, 29, 30, 31, 32, 33, 34, 35, 36, 37, 38, 39, 40, 41, 42, 43, 44, 45, 46, 47, 48, 49, 50, 51, 52, 53, 54, 55, 56, 57, 58, 59, 60, 61, 62, 63, 64, 65, 66, 67, 68, 69, 70, 71, 72, 73, 74, 75, 76, 77, 78, 79, 80, 81, 82, 83] (by decide +kernel) (by decide +kernel)) (goodIn_sub (fun _ h => List.mem_cons_of_mem _ (List.mem_append_left _ (List.mem_append_left _ (List.mem_append_right _ h)))) (by decide +kernel))) (goodIn_sub (fun _ h => List.mem_cons_of_mem _ (List.mem_append_left _ (List.mem_append_right _ h))) (by decide +kernel))) (goodIn_sub (fun _ h => List.mem_cons_of_mem _ (List.mem_append_right _ h)) (by decide +kernel))
set_option maxRecDepth 20000 in
theorem gL_draw_X2_draw : GoodIn wsL_draw (wsV RL 33 RX2 yX2_draw wsX2_draw) := goodIn_app (goodIn_of _ (by decide +kernel)) ggL_draw_X2_draw
theorem dL_draw_0 : decode cL_draw 0 = .ok (.aload_n 3, 1) := by decide +kernel
theorem dL_draw_1 : decode cL_draw 1 = .ok (.iconst 0, 1) := by decide +kernel
theorem dL_draw_2 : decode cL_draw 2 = .ok (.aload_n 0, 1) := by decide +kernel
theorem dL_draw_3 : decode cL_draw 3 = .ok (.iload_n 1, 1) := by decide +kernel
theorem dL_draw_4 : decode cL_draw 4 = .ok (.iload_n 2, 1) := by decide +kernel
theorem dL_draw_5 : decode cL_draw 5 = .ok (.invokevirtual 33, 3) := by decide +kernel
theorem dL_draw_8 : decode cL_draw 8 = .ok (.i2l, 1) := by decide +kernel
theorem dL_draw_9 : decode cL_draw 9 = .ok (.lastore, 1) := by decide +kernel
theorem dL_draw_10 : decode cL_draw 10 = .ok (.goto 15, 3) := by decide +kernel
theorem dL_draw_13 : decode cL_draw 13 = .ok (.astore 4, 2) := by decide +kernel
theorem dL_draw_15 : decode cL_draw 15 = .ok (.iconst 1, 1) := by decide +kernel
theorem dL_draw_16 : decode cL_draw 16 = .ok (.ireturn, 1) := by decide +kernel
theorem dL_draw_17 : decode cL_draw 17 = .ok (.astore 4, 2) := by decide +kernel
theorem dL_draw_19 : decode cL_draw 19 = .ok (.iconst 2, 1) := by decide +kernel
theorem dL_draw_20 : decode cL_draw 20 = .ok (.ireturn, 1) := by decide +kernel
theorem dL_draw_21 : decode cL_draw 21 = .ok (.astore 4, 2) := by decide +kernel
theorem dL_draw_23 : decode cL_draw 23 = .ok (.iconst 3, 1) := by decide +kernel
theorem dL_draw_24 : decode cL_draw 24 = .ok (.ireturn, 1) := by decide +kernel
theorem dL_draw_25 : decode cL_draw 25 = .ok (.iconst 0, 1) := by decide +kernel
theorem dL_draw_26 : decode cL_draw 26 = .ok (.ireturn, 1) := by decide +kernel
set_option maxRecDepth 20000 in
theorem ggL_setYield_X2_setYield : GoodIn wsL_setYield wsX2_setYield := goodIn_ca (goodIn_ca (goodIn_ca (goodIn_r _ [8, 9, 10, 11, 12, 13, 7, 14, 15, 16, 17, 18, 19, 20, 21, 22, 23, 24, 25, 26, 27, 28, 29, 30, 31, 32, 33, 34, 35, 36, 37, 38, 39, 40, 41, 42, 43, 44, 45, 46, 47, 48, 49, 50] (by decide +kernel) (by decide +kernel)) (goodIn_sub (fun _ h => List.mem_cons_of_mem _ (List.mem_append_left _ (List.mem_append_left _ (List.mem_append_right _ h)))) (by decide +kernel))) (goodIn_sub (fun _ h => List.mem_cons_of_mem _ (List.mem_append_left _ (List.mem_append_right _ h))) (by decide +kernel))) (goodIn_sub (fun _ h => List.mem_cons_of_mem _ (List.mem_append_right _ h)) (by decide +kernel))
set_option maxRecDepth 20000 in
theorem gL_setYield_X2_setYield : GoodIn wsL_setYield (wsV RL 36 RX2 yX2_setYield wsX2_setYield) := goodIn_app (goodIn_of _ (by decide +kernel)) ggL_setYield_X2_setYield
theorem dL_setYield_0 : decode cL_setYield 0 = .ok (.aload_n 3, 1) := by decide +kernel
theorem dL_setYield_1 : decode cL_setYield 1 = .ok (.iconst 0, 1) := by decide +kernel
theorem dL_setYield_2 : decode cL_setYield 2 = .ok (.aload_n 0, 1) := by decide +kernel
theorem dL_setYield_3 : decode cL_setYield 3 = .ok (.iload_n 1, 1) := by decide +kernel
theorem dL_setYield_4 : decode cL_setYield 4 = .ok (.iload_n 2, 1) := by decide +kernel
theorem dL_setYield_5 : decode cL_setYield 5 = .ok (.invokevirtual 36, 3) := by decide +kernel
theorem dL_setYield_8 : decode cL_setYield 8 = .ok (.i2l, 1) := by decide +kernel
theorem dL_setYield_9 : decode cL_setYield 9 = .ok (.lastore, 1) := by decide +kernel
theorem dL_setYield_10 : decode cL_setYield 10 = .ok (.goto 15, 3) := by decide +kernel
theorem dL_setYield_13 : decode cL_setYield 13 = .ok (.astore 4, 2) := by decide +kernel
theorem dL_setYield_15 : decode cL_setYield 15 = .ok (.iconst 1, 1) := by decide +kernel
theorem dL_setYield_16 : decode cL_setYield 16 = .ok (.ireturn, 1) := by decide +kernel
theorem dL_setYield_17 : decode cL_setYield 17 = .ok (.astore 4, 2) := by decide +kernel
theorem dL_setYield_19 : decode cL_setYield 19 = .ok (.iconst 2, 1) := by decide +kernel
theorem dL_setYield_20 : decode cL_setYield 20 = .ok (.ireturn, 1) := by decide +kernel
theorem dL_setYield_21 : decode cL_setYield 21 = .ok (.astore 4, 2) := by decide +kernel
theorem dL_setYield_23 : decode cL_setYield 23 = .ok (.iconst 3, 1) := by decide +kernel
theorem dL_setYield_24 : decode cL_setYield 24 = .ok (.ireturn, 1) := by decide +kernel
theorem dL_setYield_25 : decode cL_setYield 25 = .ok (.iconst 0, 1) := by decide +kernel
theorem dL_setYield_26 : decode cL_setYield 26 = .ok (.ireturn, 1) := by decide +kernel
set_option maxRecDepth 20000 in
theorem ggL_next_X2_next : GoodIn wsL_next wsX2_next := goodIn_ca (goodIn_ca (goodIn_r _ [6, 7, 8, 9, 10, 11, 5, 12, 13, 14, 15, 16, 17, 18, 19, 20, 21, 22, 23, 24, 25, 26, 27, 28, 29, 30, 31, 32, 33, 34, 35, 36, 37, 38, 39, 40, 41, 42, 43, 44, 45, 46, 47, 48, 49, 50, 51, 52, 53, 54, 55, 56, 57, 58, 59, 60, 61, 62, 63, 64, 65, 66, 67, 68, 69, 70, 71, 72, 73, 74, 75, 76, 77, 78, 79, 80, 81, 82, 83, 84, 85, 86, 87, 88, 89, 90, 91, 92, 93, 94] (by decide +kernel) (by decide +kernel)) (goodIn_sub (fun _ h => List.mem_cons_of_mem _ (List.mem_append_left _ (List.mem_append_right _ h))) (by decide +kernel))) (goodIn_sub (fun _ h => List.mem_cons_of_mem _ (List.mem_append_right _ h)) (by decide +kernel))
set_option maxRecDepth 20000 in
theorem gL_next_X2_next : GoodIn wsL_next (wsV RL 39 RX2 yX2_next wsX2_next) := goodIn_app (goodIn_of _ (by decide +kernel)) ggL_next_X2_next
theorem dL_next_0 : decode cL_next 0 = .ok (.aload_n 1, 1) := by decide +kernel
theorem dL_next_1 : decode cL_next 1 = .ok (.iconst 0, 1) := by decide +kernel
theorem dL_next_2 : decode cL_next 2 = .ok (.aload_n 0, 1) := by decide +kernel
theorem dL_next_3 : decode cL_next 3 = .ok (.invokevirtual 39, 3) := by decide +kernel
theorem dL_next_6 : decode cL_next 6 = .ok (.i2l, 1) := by decide +kernel
theorem dL_next_7 : decode cL_next 7 = .ok (.lastore, 1) := by decide +kernel
theorem dL_next_8 : decode cL_next 8 = .ok (.goto 6, 3) := by decide +kernel
theorem dL_next_11 : decode cL_next 11 = .ok (.astore_n 2, 1) := by decide +kernel
theorem dL_next_12 : decode cL_next 12 = .ok (.iconst 1, 1) := by decide +kernel
theorem dL_next_13 : decode cL_next 13 = .ok (.ireturn, 1) := by decide +kernel
theorem dL_next_14 : decode cL_next 14 = .ok (.iconst 0, 1) := by decide +kernel
theorem dL_next_15 : decode cL_next 15 = .ok (.ireturn, 1) := by decide +kernel
set_option maxRecDepth 20000 in
theorem ggL_pledge_X2_pledge : GoodIn wsL_pledge wsX2_pledge := goodIn_ca (goodIn_ca (goodIn_ca (goodIn_r _ [8, 9, 10, 11, 12, 13, 14, 7, 15, 16, 17, 18, 19, 20, 21, 22, 23, 24, 25, 26, 27, 28, 29, 30, 31, 32, 33, 34, 35, 36, 37, 38, 39, 40, 41, 42, 43, 44, 45, 46, 47, 48, 49, 50, 51, 52, 53, 54, 55, 56, 57, 58, 59, 60, 61, 62, 63, 64, 65, 66, 67, 68, 69, 70, 71, 72, 73, 74, 75, 76, 77, 78, 79, 80, 81, 82, 83, 84, 85, 86, 87, 88] (by decide +kernel) (by decide +kernel)) (goodIn_sub (fun _ h => List.mem_cons_of_mem _ (List.mem_append_left _ (List.mem_append_left _ (List.mem_append_right _ h)))) (by decide +kernel))) (goodIn_sub (fun _ h => List.mem_cons_of_mem _ (List.mem_append_left _ (List.mem_append_right _ h))) (by decide +kernel))) (goodIn_sub (fun _ h => List.mem_cons_of_mem _ (List.mem_append_right _ h)) (by decide +kernel))
set_option maxRecDepth 20000 in
theorem gL_pledge_X2_pledge : GoodIn wsL_pledge (wsV RL 43 RX2 yX2_pledge wsX2_pledge) := goodIn_app (goodIn_of _ (by decide +kernel)) ggL_pledge_X2_pledge
theorem dL_pledge_0 : decode cL_pledge 0 = .ok (.aload_n 3, 1) := by decide +kernel
theorem dL_pledge_1 : decode cL_pledge 1 = .ok (.iconst 0, 1) := by decide +kernel
theorem dL_pledge_2 : decode cL_pledge 2 = .ok (.aload_n 0, 1) := by decide +kernel
theorem dL_pledge_3 : decode cL_pledge 3 = .ok (.iload_n 1, 1) := by decide +kernel
theorem dL_pledge_4 : decode cL_pledge 4 = .ok (.iload_n 2, 1) := by decide +kernel
theorem dL_pledge_5 : decode cL_pledge 5 = .ok (.invokevirtual 43, 3) := by decide +kernel
theorem dL_pledge_8 : decode cL_pledge 8 = .ok (.i2l, 1) := by decide +kernel
theorem dL_pledge_9 : decode cL_pledge 9 = .ok (.lastore, 1) := by decide +kernel
theorem dL_pledge_10 : decode cL_pledge 10 = .ok (.goto 15, 3) := by decide +kernel
theorem dL_pledge_13 : decode cL_pledge 13 = .ok (.astore 4, 2) := by decide +kernel
theorem dL_pledge_15 : decode cL_pledge 15 = .ok (.iconst 1, 1) := by decide +kernel
theorem dL_pledge_16 : decode cL_pledge 16 = .ok (.ireturn, 1) := by decide +kernel
theorem dL_pledge_17 : decode cL_pledge 17 = .ok (.astore 4, 2) := by decide +kernel
theorem dL_pledge_19 : decode cL_pledge 19 = .ok (.iconst 2, 1) := by decide +kernel
theorem dL_pledge_20 : decode cL_pledge 20 = .ok (.ireturn, 1) := by decide +kernel
theorem dL_pledge_21 : decode cL_pledge 21 = .ok (.astore 4, 2) := by decide +kernel
theorem dL_pledge_23 : decode cL_pledge 23 = .ok (.iconst 3, 1) := by decide +kernel
theorem dL_pledge_24 : decode cL_pledge 24 = .ok (.ireturn, 1) := by decide +kernel
theorem dL_pledge_25 : decode cL_pledge 25 = .ok (.iconst 0, 1) := by decide +kernel
theorem dL_pledge_26 : decode cL_pledge 26 = .ok (.ireturn, 1) := by decide +kernel
set_option maxRecDepth 20000 in
theorem ggL_sell_X2_sell : GoodIn wsL_sell wsX2_sell := goodIn_ca (goodIn_ca (goodIn_ca (goodIn_r _ [8, 9, 10, 11, 12, 13, 14, 15, 7, 16, 17, 18, 19, 20, 21, 22, 23, 24, 25, 26, 27, 28, 29, 30, 31, 32, 33, 34, 35, 36, 37, 38, 39, 40, 41, 42, 43, 44, 45, 46, 47, 48, 49, 50, 51, 52, 53, 54, 55, 56, 57, 58, 59, 60, 61, 62, 63, 64, 65, 66, 67, 68, 69, 70, 71, 72, 73, 74, 75, 76, 77, 78, 79, 80, 81, 82, 83, 84, 85, 86, 87, 88, 89, 90, 91, 92, 93, 94, 95, 96, 97, 98, 99] (by decide +kernel) (by decide +kernel)) (goodIn_sub (fun _ h => List.mem_cons_of_mem _ (List.mem_append_left _ (List.mem_append_left _ (List.mem_append_right _ h)))) (by decide +kernel))) (goodIn_sub (fun _ h => List.mem_cons_of_mem _ (List.mem_append_left _ (List.mem_append_right _ h))) (by decide +kernel))) (goodIn_sub (fun _ h => List.mem_cons_of_mem _ (List.mem_append_right _ h)) (by decide +kernel))
set_option maxRecDepth 20000 in
theorem gL_sell_X2_sell : GoodIn wsL_sell (wsV RL 46 RX2 yX2_sell wsX2_sell) := goodIn_app (goodIn_of _ (by decide +kernel)) ggL_sell_X2_sell
theorem dL_sell_0 : decode cL_sell 0 = .ok (.aload_n 3, 1) := by decide +kernel
theorem dL_sell_1 : decode cL_sell 1 = .ok (.iconst 0, 1) := by decide +kernel
theorem dL_sell_2 : decode cL_sell 2 = .ok (.aload_n 0, 1) := by decide +kernel
theorem dL_sell_3 : decode cL_sell 3 = .ok (.iload_n 1, 1) := by decide +kernel
theorem dL_sell_4 : decode cL_sell 4 = .ok (.iload_n 2, 1) := by decide +kernel
theorem dL_sell_5 : decode cL_sell 5 = .ok (.invokevirtual 46, 3) := by decide +kernel
theorem dL_sell_8 : decode cL_sell 8 = .ok (.i2l, 1) := by decide +kernel
theorem dL_sell_9 : decode cL_sell 9 = .ok (.lastore, 1) := by decide +kernel
theorem dL_sell_10 : decode cL_sell 10 = .ok (.goto 15, 3) := by decide +kernel
theorem dL_sell_13 : decode cL_sell 13 = .ok (.astore 4, 2) := by decide +kernel
theorem dL_sell_15 : decode cL_sell 15 = .ok (.iconst 1, 1) := by decide +kernel
theorem dL_sell_16 : decode cL_sell 16 = .ok (.ireturn, 1) := by decide +kernel
theorem dL_sell_17 : decode cL_sell 17 = .ok (.astore 4, 2) := by decide +kernel
theorem dL_sell_19 : decode cL_sell 19 = .ok (.iconst 2, 1) := by decide +kernel
theorem dL_sell_20 : decode cL_sell 20 = .ok (.ireturn, 1) := by decide +kernel
theorem dL_sell_21 : decode cL_sell 21 = .ok (.astore 4, 2) := by decide +kernel
theorem dL_sell_23 : decode cL_sell 23 = .ok (.iconst 3, 1) := by decide +kernel
theorem dL_sell_24 : decode cL_sell 24 = .ok (.ireturn, 1) := by decide +kernel
theorem dL_sell_25 : decode cL_sell 25 = .ok (.iconst 0, 1) := by decide +kernel
theorem dL_sell_26 : decode cL_sell 26 = .ok (.ireturn, 1) := by decide +kernel
set_option maxRecDepth 20000 in
theorem ggL_repay_X2_repay : GoodIn wsL_repay wsX2_repay := goodIn_ca (goodIn_ca (goodIn_ca (goodIn_r _ [8, 9, 10, 11, 12, 13, 14, 7, 15, 16, 17, 18, 19, 20, 21, 22, 23, 24, 25, 26, 27, 28, 29, 30, 31, 32, 33, 34, 35, 36, 37, 38, 39, 40, 41, 42, 43, 44, 45, 46, 47, 48, 49, 50, 51, 52, 53, 54, 55, 56, 57, 58, 59, 60, 61, 62, 63] (by decide +kernel) (by decide +kernel)) (goodIn_sub (fun _ h => List.mem_cons_of_mem _ (List.mem_append_left _ (List.mem_append_left _ (List.mem_append_right _ h)))) (by decide +kernel))) (goodIn_sub (fun _ h => List.mem_cons_of_mem _ (List.mem_append_left _ (List.mem_append_right _ h))) (by decide +kernel))) (goodIn_sub (fun _ h => List.mem_cons_of_mem _ (List.mem_append_right _ h)) (by decide +kernel))
set_option maxRecDepth 20000 in
theorem gL_repay_X2_repay : GoodIn wsL_repay (wsV RL 49 RX2 yX2_repay wsX2_repay) := goodIn_app (goodIn_of _ (by decide +kernel)) ggL_repay_X2_repay
theorem dL_repay_0 : decode cL_repay 0 = .ok (.aload_n 3, 1) := by decide +kernel
theorem dL_repay_1 : decode cL_repay 1 = .ok (.iconst 0, 1) := by decide +kernel
theorem dL_repay_2 : decode cL_repay 2 = .ok (.aload_n 0, 1) := by decide +kernel
theorem dL_repay_3 : decode cL_repay 3 = .ok (.iload_n 1, 1) := by decide +kernel
theorem dL_repay_4 : decode cL_repay 4 = .ok (.iload_n 2, 1) := by decide +kernel
theorem dL_repay_5 : decode cL_repay 5 = .ok (.invokevirtual 49, 3) := by decide +kernel
theorem dL_repay_8 : decode cL_repay 8 = .ok (.i2l, 1) := by decide +kernel
theorem dL_repay_9 : decode cL_repay 9 = .ok (.lastore, 1) := by decide +kernel
theorem dL_repay_10 : decode cL_repay 10 = .ok (.goto 15, 3) := by decide +kernel
theorem dL_repay_13 : decode cL_repay 13 = .ok (.astore 4, 2) := by decide +kernel
theorem dL_repay_15 : decode cL_repay 15 = .ok (.iconst 1, 1) := by decide +kernel
theorem dL_repay_16 : decode cL_repay 16 = .ok (.ireturn, 1) := by decide +kernel
theorem dL_repay_17 : decode cL_repay 17 = .ok (.astore 4, 2) := by decide +kernel
theorem dL_repay_19 : decode cL_repay 19 = .ok (.iconst 2, 1) := by decide +kernel
theorem dL_repay_20 : decode cL_repay 20 = .ok (.ireturn, 1) := by decide +kernel
theorem dL_repay_21 : decode cL_repay 21 = .ok (.astore 4, 2) := by decide +kernel
theorem dL_repay_23 : decode cL_repay 23 = .ok (.iconst 3, 1) := by decide +kernel
theorem dL_repay_24 : decode cL_repay 24 = .ok (.ireturn, 1) := by decide +kernel
theorem dL_repay_25 : decode cL_repay 25 = .ok (.iconst 0, 1) := by decide +kernel
theorem dL_repay_26 : decode cL_repay 26 = .ok (.ireturn, 1) := by decide +kernel
set_option maxRecDepth 20000 in
theorem ggL_close_X2_close : GoodIn wsL_close wsX2_close := goodIn_ca (goodIn_r _ [6, 7, 8, 9, 10, 11, 12, 5, 13, 14, 15, 16, 17, 18, 19, 20, 21, 22, 23, 24, 25, 26, 27, 28, 29, 30, 31, 32, 33, 34, 35, 36, 37, 38, 39, 40, 41, 42, 43, 44, 45, 46, 47, 48, 49, 50, 51, 52, 53, 54, 55, 56, 57, 58, 59, 60, 61, 62, 63, 64, 65, 66, 67, 68, 69, 70, 71, 72, 73, 74, 75, 76, 77, 78, 79, 80, 81, 82, 83, 84, 85, 86, 87, 88, 89, 90, 91, 92, 93, 94, 95, 96, 97, 98, 99, 100, 101, 102] (by decide +kernel) (by decide +kernel)) (goodIn_sub (fun _ h => List.mem_cons_of_mem _ (List.mem_append_right _ h)) (by decide +kernel))
set_option maxRecDepth 20000 in
theorem gL_close_X2_close : GoodIn wsL_close (wsV RL 52 RX2 yX2_close wsX2_close) := goodIn_app (goodIn_of _ (by decide +kernel)) ggL_close_X2_close
theorem dL_close_0 : decode cL_close 0 = .ok (.aload_n 1, 1) := by decide +kernel
theorem dL_close_1 : decode cL_close 1 = .ok (.iconst 0, 1) := by decide +kernel
theorem dL_close_2 : decode cL_close 2 = .ok (.aload_n 0, 1) := by decide +kernel
theorem dL_close_3 : decode cL_close 3 = .ok (.invokevirtual 52, 3) := by decide +kernel
theorem dL_close_6 : decode cL_close 6 = .ok (.i2l, 1) := by decide +kernel
theorem dL_close_7 : decode cL_close 7 = .ok (.lastore, 1) := by decide +kernel
theorem dL_close_8 : decode cL_close 8 = .ok (.goto 6, 3) := by decide +kernel
theorem dL_close_11 : decode cL_close 11 = .ok (.astore_n 2, 1) := by decide +kernel
theorem dL_close_12 : decode cL_close 12 = .ok (.iconst 1, 1) := by decide +kernel
theorem dL_close_13 : decode cL_close 13 = .ok (.ireturn, 1) := by decide +kernel
theorem dL_close_14 : decode cL_close 14 = .ok (.iconst 0, 1) := by decide +kernel
theorem dL_close_15 : decode cL_close 15 = .ok (.ireturn, 1) := by decide +kernel
set_option maxRecDepth 20000 in
theorem ggL_limit_X2_limit : GoodIn wsL_limit wsX2_limit := goodIn_ca (goodIn_r _ [6, 7, 8, 9, 5, 10, 11, 12, 13, 14, 15, 16, 17, 18, 19, 20, 21, 22, 23, 24, 25, 26, 27, 28, 29, 30, 31, 32, 33, 34, 35, 36, 37, 38, 39, 40, 41, 42, 43, 44, 45, 46, 47, 48, 49, 50, 51, 52, 53, 54, 55, 56, 57, 58, 59, 60, 61, 62, 63] (by decide +kernel) (by decide +kernel)) (goodIn_sub (fun _ h => List.mem_cons_of_mem _ (List.mem_append_right _ h)) (by decide +kernel))
set_option maxRecDepth 20000 in
theorem gL_limit_X2_limit : GoodIn wsL_limit (wsV RL 55 RX2 yX2_limit wsX2_limit) := goodIn_app (goodIn_of _ (by decide +kernel)) ggL_limit_X2_limit
theorem dL_limit_0 : decode cL_limit 0 = .ok (.aload_n 2, 1) := by decide +kernel
theorem dL_limit_1 : decode cL_limit 1 = .ok (.iconst 0, 1) := by decide +kernel
theorem dL_limit_2 : decode cL_limit 2 = .ok (.aload_n 0, 1) := by decide +kernel
theorem dL_limit_3 : decode cL_limit 3 = .ok (.iload_n 1, 1) := by decide +kernel
theorem dL_limit_4 : decode cL_limit 4 = .ok (.invokevirtual 55, 3) := by decide +kernel
theorem dL_limit_7 : decode cL_limit 7 = .ok (.i2l, 1) := by decide +kernel
theorem dL_limit_8 : decode cL_limit 8 = .ok (.lastore, 1) := by decide +kernel
theorem dL_limit_9 : decode cL_limit 9 = .ok (.goto 6, 3) := by decide +kernel
theorem dL_limit_12 : decode cL_limit 12 = .ok (.astore_n 3, 1) := by decide +kernel
theorem dL_limit_13 : decode cL_limit 13 = .ok (.iconst 1, 1) := by decide +kernel
theorem dL_limit_14 : decode cL_limit 14 = .ok (.ireturn, 1) := by decide +kernel
theorem dL_limit_15 : decode cL_limit 15 = .ok (.iconst 0, 1) := by decide +kernel
theorem dL_limit_16 : decode cL_limit 16 = .ok (.ireturn, 1) := by decide +kernel
set_option maxRecDepth 20000 in
theorem ggL_debt_X2_debt : GoodIn wsL_debt wsX2_debt := goodIn_ca (goodIn_r _ [6, 7, 8, 9, 10, 5, 11, 12, 13, 14, 15, 16, 17, 18, 19, 20, 21, 22, 23, 24, 25, 26, 27, 28, 29, 30, 31, 32, 33, 34, 35, 36, 37] (by decide +kernel) (by decide +kernel)) (goodIn_sub (fun _ h => List.mem_cons_of_mem _ (List.mem_append_right _ h)) (by decide +kernel))
set_option maxRecDepth 20000 in
theorem gL_debt_X2_debt : GoodIn wsL_debt (wsV RL 58 RX2 yX2_debt wsX2_debt) := goodIn_app (goodIn_of _ (by decide +kernel)) ggL_debt_X2_debt
theorem dL_debt_0 : decode cL_debt 0 = .ok (.aload_n 2, 1) := by decide +kernel
theorem dL_debt_1 : decode cL_debt 1 = .ok (.iconst 0, 1) := by decide +kernel
theorem dL_debt_2 : decode cL_debt 2 = .ok (.aload_n 0, 1) := by decide +kernel
theorem dL_debt_3 : decode cL_debt 3 = .ok (.iload_n 1, 1) := by decide +kernel
theorem dL_debt_4 : decode cL_debt 4 = .ok (.invokevirtual 58, 3) := by decide +kernel
theorem dL_debt_7 : decode cL_debt 7 = .ok (.i2l, 1) := by decide +kernel
theorem dL_debt_8 : decode cL_debt 8 = .ok (.lastore, 1) := by decide +kernel
theorem dL_debt_9 : decode cL_debt 9 = .ok (.goto 6, 3) := by decide +kernel
theorem dL_debt_12 : decode cL_debt 12 = .ok (.astore_n 3, 1) := by decide +kernel
theorem dL_debt_13 : decode cL_debt 13 = .ok (.iconst 1, 1) := by decide +kernel
theorem dL_debt_14 : decode cL_debt 14 = .ok (.ireturn, 1) := by decide +kernel
theorem dL_debt_15 : decode cL_debt 15 = .ok (.iconst 0, 1) := by decide +kernel
theorem dL_debt_16 : decode cL_debt 16 = .ok (.ireturn, 1) := by decide +kernel
set_option maxRecDepth 20000 in
theorem ggL_owes_X2_owes : GoodIn wsL_owes wsX2_owes := goodIn_ca (goodIn_r _ [6, 7, 8, 9, 10, 11, 5, 12, 13, 14, 15, 16, 17, 18, 19, 20, 21, 22, 23, 24, 25, 26, 27, 28, 29, 30, 31, 32, 33, 34, 35, 36, 37, 38, 39, 40, 41, 42, 43, 44, 45] (by decide +kernel) (by decide +kernel)) (goodIn_sub (fun _ h => List.mem_cons_of_mem _ (List.mem_append_right _ h)) (by decide +kernel))
set_option maxRecDepth 20000 in
theorem gL_owes_X2_owes : GoodIn wsL_owes (wsV RL 61 RX2 yX2_owes wsX2_owes) := goodIn_app (goodIn_of _ (by decide +kernel)) ggL_owes_X2_owes
theorem dL_owes_0 : decode cL_owes 0 = .ok (.aload_n 2, 1) := by decide +kernel
theorem dL_owes_1 : decode cL_owes 1 = .ok (.iconst 0, 1) := by decide +kernel
theorem dL_owes_2 : decode cL_owes 2 = .ok (.aload_n 0, 1) := by decide +kernel
theorem dL_owes_3 : decode cL_owes 3 = .ok (.iload_n 1, 1) := by decide +kernel
theorem dL_owes_4 : decode cL_owes 4 = .ok (.invokevirtual 61, 3) := by decide +kernel
theorem dL_owes_7 : decode cL_owes 7 = .ok (.i2l, 1) := by decide +kernel
theorem dL_owes_8 : decode cL_owes 8 = .ok (.lastore, 1) := by decide +kernel
theorem dL_owes_9 : decode cL_owes 9 = .ok (.goto 6, 3) := by decide +kernel
theorem dL_owes_12 : decode cL_owes 12 = .ok (.astore_n 3, 1) := by decide +kernel
theorem dL_owes_13 : decode cL_owes 13 = .ok (.iconst 1, 1) := by decide +kernel
theorem dL_owes_14 : decode cL_owes 14 = .ok (.ireturn, 1) := by decide +kernel
theorem dL_owes_15 : decode cL_owes 15 = .ok (.iconst 0, 1) := by decide +kernel
theorem dL_owes_16 : decode cL_owes 16 = .ok (.ireturn, 1) := by decide +kernel
set_option maxRecDepth 20000 in
theorem ggL_instalments_X2_instalments : GoodIn wsL_instalments wsX2_instalments := goodIn_ca (goodIn_r _ [6, 7, 8, 9, 10, 5, 11, 12, 13, 14, 15, 16, 17, 18, 19, 20, 21, 22, 23, 24, 25, 26, 27, 28, 29, 30, 31, 32, 33, 34, 35, 36, 37] (by decide +kernel) (by decide +kernel)) (goodIn_sub (fun _ h => List.mem_cons_of_mem _ (List.mem_append_right _ h)) (by decide +kernel))
set_option maxRecDepth 20000 in
theorem gL_instalments_X2_instalments : GoodIn wsL_instalments (wsV RL 64 RX2 yX2_instalments wsX2_instalments) := goodIn_app (goodIn_of _ (by decide +kernel)) ggL_instalments_X2_instalments
theorem dL_instalments_0 : decode cL_instalments 0 = .ok (.aload_n 2, 1) := by decide +kernel
theorem dL_instalments_1 : decode cL_instalments 1 = .ok (.iconst 0, 1) := by decide +kernel
theorem dL_instalments_2 : decode cL_instalments 2 = .ok (.aload_n 0, 1) := by decide +kernel
theorem dL_instalments_3 : decode cL_instalments 3 = .ok (.iload_n 1, 1) := by decide +kernel
theorem dL_instalments_4 : decode cL_instalments 4 = .ok (.invokevirtual 64, 3) := by decide +kernel
theorem dL_instalments_7 : decode cL_instalments 7 = .ok (.i2l, 1) := by decide +kernel
theorem dL_instalments_8 : decode cL_instalments 8 = .ok (.lastore, 1) := by decide +kernel
theorem dL_instalments_9 : decode cL_instalments 9 = .ok (.goto 6, 3) := by decide +kernel
theorem dL_instalments_12 : decode cL_instalments 12 = .ok (.astore_n 3, 1) := by decide +kernel
theorem dL_instalments_13 : decode cL_instalments 13 = .ok (.iconst 1, 1) := by decide +kernel
theorem dL_instalments_14 : decode cL_instalments 14 = .ok (.ireturn, 1) := by decide +kernel
theorem dL_instalments_15 : decode cL_instalments 15 = .ok (.iconst 0, 1) := by decide +kernel
theorem dL_instalments_16 : decode cL_instalments 16 = .ok (.ireturn, 1) := by decide +kernel
set_option maxRecDepth 20000 in
theorem ggL_purse_X2_purse : GoodIn wsL_purse wsX2_purse := goodIn_ca (goodIn_r _ [6, 7, 8, 9, 10, 5, 11, 12, 13, 14, 15, 16, 17, 18, 19, 20, 21, 22, 23, 24, 25, 26, 27, 28, 29, 30, 31, 32, 33, 34, 35, 36, 37] (by decide +kernel) (by decide +kernel)) (goodIn_sub (fun _ h => List.mem_cons_of_mem _ (List.mem_append_right _ h)) (by decide +kernel))
set_option maxRecDepth 20000 in
theorem gL_purse_X2_purse : GoodIn wsL_purse (wsV RL 67 RX2 yX2_purse wsX2_purse) := goodIn_app (goodIn_of _ (by decide +kernel)) ggL_purse_X2_purse
theorem dL_purse_0 : decode cL_purse 0 = .ok (.aload_n 2, 1) := by decide +kernel
theorem dL_purse_1 : decode cL_purse 1 = .ok (.iconst 0, 1) := by decide +kernel
theorem dL_purse_2 : decode cL_purse 2 = .ok (.aload_n 0, 1) := by decide +kernel
theorem dL_purse_3 : decode cL_purse 3 = .ok (.iload_n 1, 1) := by decide +kernel
theorem dL_purse_4 : decode cL_purse 4 = .ok (.invokevirtual 67, 3) := by decide +kernel
theorem dL_purse_7 : decode cL_purse 7 = .ok (.i2l, 1) := by decide +kernel
theorem dL_purse_8 : decode cL_purse 8 = .ok (.lastore, 1) := by decide +kernel
theorem dL_purse_9 : decode cL_purse 9 = .ok (.goto 6, 3) := by decide +kernel
theorem dL_purse_12 : decode cL_purse 12 = .ok (.astore_n 3, 1) := by decide +kernel
theorem dL_purse_13 : decode cL_purse 13 = .ok (.iconst 1, 1) := by decide +kernel
theorem dL_purse_14 : decode cL_purse 14 = .ok (.ireturn, 1) := by decide +kernel
theorem dL_purse_15 : decode cL_purse 15 = .ok (.iconst 0, 1) := by decide +kernel
theorem dL_purse_16 : decode cL_purse 16 = .ok (.ireturn, 1) := by decide +kernel
set_option maxRecDepth 20000 in
theorem ggL_grain_X2_grain : GoodIn wsL_grain wsX2_grain := goodIn_ca (goodIn_r _ [6, 7, 8, 9, 10, 11, 5, 12, 13, 14, 15, 16, 17, 18, 19, 20, 21, 22, 23, 24, 25, 26, 27, 28, 29, 30, 31, 32, 33, 34, 35, 36, 37, 38] (by decide +kernel) (by decide +kernel)) (goodIn_sub (fun _ h => List.mem_cons_of_mem _ (List.mem_append_right _ h)) (by decide +kernel))
set_option maxRecDepth 20000 in
theorem gL_grain_X2_grain : GoodIn wsL_grain (wsV RL 70 RX2 yX2_grain wsX2_grain) := goodIn_app (goodIn_of _ (by decide +kernel)) ggL_grain_X2_grain
theorem dL_grain_0 : decode cL_grain 0 = .ok (.aload_n 3, 1) := by decide +kernel
theorem dL_grain_1 : decode cL_grain 1 = .ok (.iconst 0, 1) := by decide +kernel
theorem dL_grain_2 : decode cL_grain 2 = .ok (.aload_n 0, 1) := by decide +kernel
theorem dL_grain_3 : decode cL_grain 3 = .ok (.iload_n 1, 1) := by decide +kernel
theorem dL_grain_4 : decode cL_grain 4 = .ok (.iload_n 2, 1) := by decide +kernel
theorem dL_grain_5 : decode cL_grain 5 = .ok (.invokevirtual 70, 3) := by decide +kernel
theorem dL_grain_8 : decode cL_grain 8 = .ok (.i2l, 1) := by decide +kernel
theorem dL_grain_9 : decode cL_grain 9 = .ok (.lastore, 1) := by decide +kernel
theorem dL_grain_10 : decode cL_grain 10 = .ok (.goto 7, 3) := by decide +kernel
theorem dL_grain_13 : decode cL_grain 13 = .ok (.astore 4, 2) := by decide +kernel
theorem dL_grain_15 : decode cL_grain 15 = .ok (.iconst 1, 1) := by decide +kernel
theorem dL_grain_16 : decode cL_grain 16 = .ok (.ireturn, 1) := by decide +kernel
theorem dL_grain_17 : decode cL_grain 17 = .ok (.iconst 0, 1) := by decide +kernel
theorem dL_grain_18 : decode cL_grain 18 = .ok (.ireturn, 1) := by decide +kernel
set_option maxRecDepth 20000 in
theorem ggL_called_X2_called : GoodIn wsL_called wsX2_called := goodIn_ca (goodIn_r _ [6, 7, 8, 9, 10, 5, 11, 12, 13, 14, 15, 16, 17, 18, 19, 20, 21, 22, 23, 24, 25, 26, 27, 28, 29, 30, 31, 32, 33, 34, 35, 36, 37] (by decide +kernel) (by decide +kernel)) (goodIn_sub (fun _ h => List.mem_cons_of_mem _ (List.mem_append_right _ h)) (by decide +kernel))
set_option maxRecDepth 20000 in
theorem gL_called_X2_called : GoodIn wsL_called (wsV RL 74 RX2 yX2_called wsX2_called) := goodIn_app (goodIn_of _ (by decide +kernel)) ggL_called_X2_called
theorem dL_called_0 : decode cL_called 0 = .ok (.aload_n 2, 1) := by decide +kernel
theorem dL_called_1 : decode cL_called 1 = .ok (.iconst 0, 1) := by decide +kernel
theorem dL_called_2 : decode cL_called 2 = .ok (.aload_n 0, 1) := by decide +kernel
theorem dL_called_3 : decode cL_called 3 = .ok (.iload_n 1, 1) := by decide +kernel
theorem dL_called_4 : decode cL_called 4 = .ok (.invokevirtual 74, 3) := by decide +kernel
theorem dL_called_7 : decode cL_called 7 = .ok (.i2l, 1) := by decide +kernel
theorem dL_called_8 : decode cL_called 8 = .ok (.lastore, 1) := by decide +kernel
theorem dL_called_9 : decode cL_called 9 = .ok (.goto 6, 3) := by decide +kernel
theorem dL_called_12 : decode cL_called 12 = .ok (.astore_n 3, 1) := by decide +kernel
theorem dL_called_13 : decode cL_called 13 = .ok (.iconst 1, 1) := by decide +kernel
theorem dL_called_14 : decode cL_called 14 = .ok (.ireturn, 1) := by decide +kernel
theorem dL_called_15 : decode cL_called 15 = .ok (.iconst 0, 1) := by decide +kernel
theorem dL_called_16 : decode cL_called 16 = .ok (.ireturn, 1) := by decide +kernel
set_option maxRecDepth 20000 in
theorem ggL_repaid_X2_repaid : GoodIn wsL_repaid wsX2_repaid := goodIn_ca (goodIn_ca (goodIn_r _ [7, 8, 9, 10, 11, 6, 12, 13, 14, 15, 16, 17, 18, 19, 20, 21, 22, 23, 24, 25, 26, 27, 28, 29, 30, 31, 32, 33, 34, 35, 36, 37, 38, 39, 40, 41, 42, 43] (by decide +kernel) (by decide +kernel)) (goodIn_sub (fun _ h => List.mem_cons_of_mem _ (List.mem_append_left _ (List.mem_append_right _ h))) (by decide +kernel))) (goodIn_sub (fun _ h => List.mem_cons_of_mem _ (List.mem_append_right _ h)) (by decide +kernel))
set_option maxRecDepth 20000 in
theorem gL_repaid_X2_repaid : GoodIn wsL_repaid (wsV RL 77 RX2 yX2_repaid wsX2_repaid) := goodIn_app (goodIn_of _ (by decide +kernel)) ggL_repaid_X2_repaid
theorem dL_repaid_0 : decode cL_repaid 0 = .ok (.aload_n 3, 1) := by decide +kernel
theorem dL_repaid_1 : decode cL_repaid 1 = .ok (.iconst 0, 1) := by decide +kernel
theorem dL_repaid_2 : decode cL_repaid 2 = .ok (.aload_n 0, 1) := by decide +kernel
theorem dL_repaid_3 : decode cL_repaid 3 = .ok (.iload_n 1, 1) := by decide +kernel
theorem dL_repaid_4 : decode cL_repaid 4 = .ok (.iload_n 2, 1) := by decide +kernel
theorem dL_repaid_5 : decode cL_repaid 5 = .ok (.invokevirtual 77, 3) := by decide +kernel
theorem dL_repaid_8 : decode cL_repaid 8 = .ok (.i2l, 1) := by decide +kernel
theorem dL_repaid_9 : decode cL_repaid 9 = .ok (.lastore, 1) := by decide +kernel
theorem dL_repaid_10 : decode cL_repaid 10 = .ok (.goto 11, 3) := by decide +kernel
theorem dL_repaid_13 : decode cL_repaid 13 = .ok (.astore 4, 2) := by decide +kernel
theorem dL_repaid_15 : decode cL_repaid 15 = .ok (.iconst 1, 1) := by decide +kernel
theorem dL_repaid_16 : decode cL_repaid 16 = .ok (.ireturn, 1) := by decide +kernel
theorem dL_repaid_17 : decode cL_repaid 17 = .ok (.astore 4, 2) := by decide +kernel
theorem dL_repaid_19 : decode cL_repaid 19 = .ok (.iconst 2, 1) := by decide +kernel
theorem dL_repaid_20 : decode cL_repaid 20 = .ok (.ireturn, 1) := by decide +kernel
theorem dL_repaid_21 : decode cL_repaid 21 = .ok (.iconst 0, 1) := by decide +kernel
theorem dL_repaid_22 : decode cL_repaid 22 = .ok (.ireturn, 1) := by decide +kernel
set_option maxRecDepth 20000 in
theorem ggL_charged_X2_charged : GoodIn wsL_charged wsX2_charged := goodIn_ca (goodIn_r _ [6, 7, 8, 9, 10, 5, 11, 12, 13, 14, 15, 16, 17, 18, 19, 20, 21, 22, 23, 24, 25, 26, 27, 28, 29, 30, 31, 32, 33, 34, 35, 36, 37] (by decide +kernel) (by decide +kernel)) (goodIn_sub (fun _ h => List.mem_cons_of_mem _ (List.mem_append_right _ h)) (by decide +kernel))
set_option maxRecDepth 20000 in
theorem gL_charged_X2_charged : GoodIn wsL_charged (wsV RL 80 RX2 yX2_charged wsX2_charged) := goodIn_app (goodIn_of _ (by decide +kernel)) ggL_charged_X2_charged
theorem dL_charged_0 : decode cL_charged 0 = .ok (.aload_n 2, 1) := by decide +kernel
theorem dL_charged_1 : decode cL_charged 1 = .ok (.iconst 0, 1) := by decide +kernel
theorem dL_charged_2 : decode cL_charged 2 = .ok (.aload_n 0, 1) := by decide +kernel
theorem dL_charged_3 : decode cL_charged 3 = .ok (.iload_n 1, 1) := by decide +kernel
theorem dL_charged_4 : decode cL_charged 4 = .ok (.invokevirtual 80, 3) := by decide +kernel
theorem dL_charged_7 : decode cL_charged 7 = .ok (.i2l, 1) := by decide +kernel
theorem dL_charged_8 : decode cL_charged 8 = .ok (.lastore, 1) := by decide +kernel
theorem dL_charged_9 : decode cL_charged 9 = .ok (.goto 6, 3) := by decide +kernel
theorem dL_charged_12 : decode cL_charged 12 = .ok (.astore_n 3, 1) := by decide +kernel
theorem dL_charged_13 : decode cL_charged 13 = .ok (.iconst 1, 1) := by decide +kernel
theorem dL_charged_14 : decode cL_charged 14 = .ok (.ireturn, 1) := by decide +kernel
theorem dL_charged_15 : decode cL_charged 15 = .ok (.iconst 0, 1) := by decide +kernel
theorem dL_charged_16 : decode cL_charged 16 = .ok (.ireturn, 1) := by decide +kernel
