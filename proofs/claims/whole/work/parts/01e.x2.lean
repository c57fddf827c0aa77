set_option maxRecDepth 20000 in
theorem ggX2_init_X0_init : GoodIn wsX2_init wsX0_init := goodIn_r _ [17, 18, 2, 3, 19, 20, 21, 22, 49, 50, 51] (by decide +kernel) (by decide +kernel)
set_option maxRecDepth 20000 in
theorem gX2_init_X0_init : GoodIn wsX2_init (wsX0_init) := ggX2_init_X0_init
set_option maxRecDepth 20000 in
theorem ggX2_init_X1_init : GoodIn wsX2_init wsX1_init := goodIn_r _ [24, 25, 2, 3, 26, 27, 28, 29, 30, 31, 32, 33, 34, 35, 36, 37, 38, 39, 40, 41, 42, 43, 52, 53, 54, 55, 56, 57, 58, 59, 60, 61, 62, 63, 64, 65, 66, 67, 68] (by decide +kernel) (by decide +kernel)
set_option maxRecDepth 20000 in
theorem gX2_init_X1_init_n32 : GoodIn wsX2_init (wsX1_init) := ggX2_init_X1_init
theorem dX2_init_0 : decode cX2_init 0 = .ok (.aload_n 0, 1) := by decide +kernel
theorem dX2_init_1 : decode cX2_init 1 = .ok (.invokespecial 1, 3) := by decide +kernel
theorem dX2_init_4 : decode cX2_init 4 = .ok (.aload_n 0, 1) := by decide +kernel
theorem dX2_init_5 : decode cX2_init 5 = .ok (.iconst 3, 1) := by decide +kernel
theorem dX2_init_6 : decode cX2_init 6 = .ok (.anewarray 9, 3) := by decide +kernel
theorem dX2_init_9 : decode cX2_init 9 = .ok (.putfield 11, 3) := by decide +kernel
theorem dX2_init_12 : decode cX2_init 12 = .ok (.aload_n 0, 1) := by decide +kernel
theorem dX2_init_13 : decode cX2_init 13 = .ok (.bipush 8, 2) := by decide +kernel
theorem dX2_init_15 : decode cX2_init 15 = .ok (.anewarray 15, 3) := by decide +kernel
theorem dX2_init_18 : decode cX2_init 18 = .ok (.putfield 17, 3) := by decide +kernel
theorem dX2_init_21 : decode cX2_init 21 = .ok (.aload_n 0, 1) := by decide +kernel
theorem dX2_init_22 : decode cX2_init 22 = .ok (.iconst 0, 1) := by decide +kernel
theorem dX2_init_23 : decode cX2_init 23 = .ok (.putfield 21, 3) := by decide +kernel
theorem dX2_init_26 : decode cX2_init 26 = .ok (.aload_n 0, 1) := by decide +kernel
theorem dX2_init_27 : decode cX2_init 27 = .ok (.iconst 0, 1) := by decide +kernel
theorem dX2_init_28 : decode cX2_init 28 = .ok (.putfield 25, 3) := by decide +kernel
theorem dX2_init_31 : decode cX2_init 31 = .ok (.aload_n 0, 1) := by decide +kernel
theorem dX2_init_32 : decode cX2_init 32 = .ok (.iconst 0, 1) := by decide +kernel
theorem dX2_init_33 : decode cX2_init 33 = .ok (.putfield 28, 3) := by decide +kernel
theorem dX2_init_36 : decode cX2_init 36 = .ok (.iconst 0, 1) := by decide +kernel
theorem dX2_init_37 : decode cX2_init 37 = .ok (.istore_n 1, 1) := by decide +kernel
theorem dX2_init_38 : decode cX2_init 38 = .ok (.iload_n 1, 1) := by decide +kernel
theorem dX2_init_39 : decode cX2_init 39 = .ok (.iconst 3, 1) := by decide +kernel
theorem dX2_init_40 : decode cX2_init 40 = .ok (.if_icmp .ge 22, 3) := by decide +kernel
theorem dX2_init_43 : decode cX2_init 43 = .ok (.aload_n 0, 1) := by decide +kernel
theorem dX2_init_44 : decode cX2_init 44 = .ok (.getfield 11, 3) := by decide +kernel
theorem dX2_init_47 : decode cX2_init 47 = .ok (.iload_n 1, 1) := by decide +kernel
theorem dX2_init_48 : decode cX2_init 48 = .ok (.new 9, 3) := by decide +kernel
theorem dX2_init_51 : decode cX2_init 51 = .ok (.dup, 1) := by decide +kernel
theorem dX2_init_52 : decode cX2_init 52 = .ok (.invokespecial 31, 3) := by decide +kernel
theorem dX2_init_55 : decode cX2_init 55 = .ok (.aastore, 1) := by decide +kernel
theorem dX2_init_56 : decode cX2_init 56 = .ok (.iinc 1 1, 3) := by decide +kernel
theorem dX2_init_59 : decode cX2_init 59 = .ok (.goto (-21), 3) := by decide +kernel
theorem dX2_init_62 : decode cX2_init 62 = .ok (.iconst 0, 1) := by decide +kernel
theorem dX2_init_63 : decode cX2_init 63 = .ok (.istore_n 1, 1) := by decide +kernel
theorem dX2_init_64 : decode cX2_init 64 = .ok (.iload_n 1, 1) := by decide +kernel
theorem dX2_init_65 : decode cX2_init 65 = .ok (.bipush 8, 2) := by decide +kernel
theorem dX2_init_67 : decode cX2_init 67 = .ok (.if_icmp .ge 22, 3) := by decide +kernel
theorem dX2_init_70 : decode cX2_init 70 = .ok (.aload_n 0, 1) := by decide +kernel
theorem dX2_init_71 : decode cX2_init 71 = .ok (.getfield 17, 3) := by decide +kernel
theorem dX2_init_74 : decode cX2_init 74 = .ok (.iload_n 1, 1) := by decide +kernel
theorem dX2_init_75 : decode cX2_init 75 = .ok (.new 15, 3) := by decide +kernel
theorem dX2_init_78 : decode cX2_init 78 = .ok (.dup, 1) := by decide +kernel
theorem dX2_init_79 : decode cX2_init 79 = .ok (.invokespecial 32, 3) := by decide +kernel
theorem dX2_init_82 : decode cX2_init 82 = .ok (.aastore, 1) := by decide +kernel
theorem dX2_init_83 : decode cX2_init 83 = .ok (.iinc 1 1, 3) := by decide +kernel
theorem dX2_init_86 : decode cX2_init 86 = .ok (.goto (-22), 3) := by decide +kernel
theorem dX2_init_89 : decode cX2_init 89 = .ok (.return_, 1) := by decide +kernel
set_option maxRecDepth 20000 in
theorem ggX2_setNeed_X2_cropAt : GoodIn wsX2_setNeed wsX2_cropAt := goodIn_ca (goodIn_r _ [9, 1, 2, 10, 19, 20, 21, 22, 23] (by decide +kernel) (by decide +kernel)) (goodIn_sub (fun _ h => List.mem_cons_of_mem _ (List.mem_append_left _ (List.mem_append_right _ h))) (by decide +kernel))
set_option maxRecDepth 20000 in
theorem gX2_setNeed_X2_cropAt : GoodIn wsX2_setNeed (wsV RX2 33 RX2 yX2_cropAt wsX2_cropAt) := goodIn_app (goodIn_of _ (by decide +kernel)) ggX2_setNeed_X2_cropAt
set_option maxRecDepth 20000 in
theorem ggX2_setNeed_X2_requireRange : GoodIn wsX2_setNeed wsX2_requireRange := goodIn_ca (goodIn_r _ [13, 14, 15] (by decide +kernel) (by decide +kernel)) (goodIn_sub (fun _ h => List.mem_cons_of_mem _ (List.mem_append_right _ h)) (by decide +kernel))
set_option maxRecDepth 20000 in
theorem gX2_setNeed_X2_requireRange : GoodIn wsX2_setNeed (va_wsS RX2 45 yX2_requireRange wsX2_requireRange) := goodIn_app (goodIn_of _ (by decide +kernel)) ggX2_setNeed_X2_requireRange
theorem dX2_setNeed_0 : decode cX2_setNeed 0 = .ok (.aload_n 0, 1) := by decide +kernel
theorem dX2_setNeed_1 : decode cX2_setNeed 1 = .ok (.iload_n 1, 1) := by decide +kernel
theorem dX2_setNeed_2 : decode cX2_setNeed 2 = .ok (.invokevirtual 33, 3) := by decide +kernel
theorem dX2_setNeed_5 : decode cX2_setNeed 5 = .ok (.astore 4, 2) := by decide +kernel
theorem dX2_setNeed_7 : decode cX2_setNeed 7 = .ok (.iload_n 2, 1) := by decide +kernel
theorem dX2_setNeed_8 : decode cX2_setNeed 8 = .ok (.ifCond .lt 8, 3) := by decide +kernel
theorem dX2_setNeed_11 : decode cX2_setNeed 11 = .ok (.iload_n 2, 1) := by decide +kernel
theorem dX2_setNeed_12 : decode cX2_setNeed 12 = .ok (.iconst 4, 1) := by decide +kernel
theorem dX2_setNeed_13 : decode cX2_setNeed 13 = .ok (.if_icmp .lt 13, 3) := by decide +kernel
theorem dX2_setNeed_16 : decode cX2_setNeed 16 = .ok (.new 37, 3) := by decide +kernel
theorem dX2_setNeed_19 : decode cX2_setNeed 19 = .ok (.dup, 1) := by decide +kernel
theorem dX2_setNeed_20 : decode cX2_setNeed 20 = .ok (.ldc 39, 2) := by decide +kernel
theorem dX2_setNeed_22 : decode cX2_setNeed 22 = .ok (.invokespecial 41, 3) := by decide +kernel
theorem dX2_setNeed_25 : decode cX2_setNeed 25 = .ok (.athrow, 1) := by decide +kernel
theorem dX2_setNeed_26 : decode cX2_setNeed 26 = .ok (.iload_n 3, 1) := by decide +kernel
theorem dX2_setNeed_27 : decode cX2_setNeed 27 = .ok (.iconst 0, 1) := by decide +kernel
theorem dX2_setNeed_28 : decode cX2_setNeed 28 = .ok (.ldc 44, 2) := by decide +kernel
theorem dX2_setNeed_30 : decode cX2_setNeed 30 = .ok (.invokestatic 45, 3) := by decide +kernel
theorem dX2_setNeed_33 : decode cX2_setNeed 33 = .ok (.aload 4, 2) := by decide +kernel
theorem dX2_setNeed_35 : decode cX2_setNeed 35 = .ok (.getfield 49, 3) := by decide +kernel
theorem dX2_setNeed_38 : decode cX2_setNeed 38 = .ok (.iload_n 2, 1) := by decide +kernel
theorem dX2_setNeed_39 : decode cX2_setNeed 39 = .ok (.iaload, 1) := by decide +kernel
theorem dX2_setNeed_40 : decode cX2_setNeed 40 = .ok (.istore 5, 2) := by decide +kernel
theorem dX2_setNeed_42 : decode cX2_setNeed 42 = .ok (.aload 4, 2) := by decide +kernel
theorem dX2_setNeed_44 : decode cX2_setNeed 44 = .ok (.getfield 49, 3) := by decide +kernel
theorem dX2_setNeed_47 : decode cX2_setNeed 47 = .ok (.iload_n 2, 1) := by decide +kernel
theorem dX2_setNeed_48 : decode cX2_setNeed 48 = .ok (.iload_n 3, 1) := by decide +kernel
theorem dX2_setNeed_49 : decode cX2_setNeed 49 = .ok (.iastore, 1) := by decide +kernel
theorem dX2_setNeed_50 : decode cX2_setNeed 50 = .ok (.iload 5, 2) := by decide +kernel
theorem dX2_setNeed_52 : decode cX2_setNeed 52 = .ok (.ireturn, 1) := by decide +kernel
set_option maxRecDepth 20000 in
theorem ggX2_setCrop_X2_cropAt : GoodIn wsX2_setCrop wsX2_cropAt := goodIn_ca (goodIn_r _ [7, 8, 9, 10, 19, 20, 21, 22, 23] (by decide +kernel) (by decide +kernel)) (goodIn_sub (fun _ h => List.mem_cons_of_mem _ (List.mem_append_left _ (List.mem_append_right _ h))) (by decide +kernel))
set_option maxRecDepth 20000 in
theorem gX2_setCrop_X2_cropAt : GoodIn wsX2_setCrop (wsV RX2 33 RX2 yX2_cropAt wsX2_cropAt) := goodIn_app (goodIn_of _ (by decide +kernel)) ggX2_setCrop_X2_cropAt
set_option maxRecDepth 20000 in
theorem ggX2_setCrop_X2_requireRange : GoodIn wsX2_setCrop wsX2_requireRange := goodIn_ca (goodIn_r _ [13, 14, 15] (by decide +kernel) (by decide +kernel)) (goodIn_sub (fun _ h => List.mem_cons_of_mem _ (List.mem_append_right _ h)) (by decide +kernel))
set_option maxRecDepth 20000 in
theorem gX2_setCrop_X2_requireRange : GoodIn wsX2_setCrop (va_wsS RX2 45 yX2_requireRange wsX2_requireRange) := goodIn_app (goodIn_of _ (by decide +kernel)) ggX2_setCrop_X2_requireRange
theorem dX2_setCrop_0 : decode cX2_setCrop 0 = .ok (.aload_n 0, 1) := by decide +kernel
theorem dX2_setCrop_1 : decode cX2_setCrop 1 = .ok (.iload_n 1, 1) := by decide +kernel
theorem dX2_setCrop_2 : decode cX2_setCrop 2 = .ok (.invokevirtual 33, 3) := by decide +kernel
theorem dX2_setCrop_5 : decode cX2_setCrop 5 = .ok (.astore 4, 2) := by decide +kernel
theorem dX2_setCrop_7 : decode cX2_setCrop 7 = .ok (.iload_n 2, 1) := by decide +kernel
theorem dX2_setCrop_8 : decode cX2_setCrop 8 = .ok (.iconst 1, 1) := by decide +kernel
theorem dX2_setCrop_9 : decode cX2_setCrop 9 = .ok (.sipush 5000, 3) := by decide +kernel
theorem dX2_setCrop_12 : decode cX2_setCrop 12 = .ok (.invokestatic 45, 3) := by decide +kernel
theorem dX2_setCrop_15 : decode cX2_setCrop 15 = .ok (.iload_n 3, 1) := by decide +kernel
theorem dX2_setCrop_16 : decode cX2_setCrop 16 = .ok (.iconst 0, 1) := by decide +kernel
theorem dX2_setCrop_17 : decode cX2_setCrop 17 = .ok (.bipush 100, 2) := by decide +kernel
theorem dX2_setCrop_19 : decode cX2_setCrop 19 = .ok (.invokestatic 45, 3) := by decide +kernel
theorem dX2_setCrop_22 : decode cX2_setCrop 22 = .ok (.aload 4, 2) := by decide +kernel
theorem dX2_setCrop_24 : decode cX2_setCrop 24 = .ok (.getfield 53, 3) := by decide +kernel
theorem dX2_setCrop_27 : decode cX2_setCrop 27 = .ok (.istore 5, 2) := by decide +kernel
theorem dX2_setCrop_29 : decode cX2_setCrop 29 = .ok (.aload 4, 2) := by decide +kernel
theorem dX2_setCrop_31 : decode cX2_setCrop 31 = .ok (.iload_n 2, 1) := by decide +kernel
theorem dX2_setCrop_32 : decode cX2_setCrop 32 = .ok (.putfield 53, 3) := by decide +kernel
theorem dX2_setCrop_35 : decode cX2_setCrop 35 = .ok (.aload 4, 2) := by decide +kernel
theorem dX2_setCrop_37 : decode cX2_setCrop 37 = .ok (.iload_n 3, 1) := by decide +kernel
theorem dX2_setCrop_38 : decode cX2_setCrop 38 = .ok (.putfield 56, 3) := by decide +kernel
theorem dX2_setCrop_41 : decode cX2_setCrop 41 = .ok (.iload 5, 2) := by decide +kernel
theorem dX2_setCrop_43 : decode cX2_setCrop 43 = .ok (.ireturn, 1) := by decide +kernel
set_option maxRecDepth 20000 in
theorem ggX2_add_X2_requireState : GoodIn wsX2_add wsX2_requireState := goodIn_ca (goodIn_r _ [9, 10, 11] (by decide +kernel) (by decide +kernel)) (goodIn_sub (fun _ h => List.mem_cons_of_mem _ (List.mem_append_right _ h)) (by decide +kernel))
set_option maxRecDepth 20000 in
theorem gX2_add_X2_requireState : GoodIn wsX2_add (va_wsS RX2 61 yX2_requireState wsX2_requireState) := goodIn_app (goodIn_of _ (by decide +kernel)) ggX2_add_X2_requireState
theorem dX2_add_0 : decode cX2_add 0 = .ok (.iload_n 1, 1) := by decide +kernel
theorem dX2_add_1 : decode cX2_add 1 = .ok (.ifCond .lt 8, 3) := by decide +kernel
theorem dX2_add_4 : decode cX2_add 4 = .ok (.iload_n 1, 1) := by decide +kernel
theorem dX2_add_5 : decode cX2_add 5 = .ok (.iconst 3, 1) := by decide +kernel
theorem dX2_add_6 : decode cX2_add 6 = .ok (.if_icmp .lt 13, 3) := by decide +kernel
theorem dX2_add_9 : decode cX2_add 9 = .ok (.new 37, 3) := by decide +kernel
theorem dX2_add_12 : decode cX2_add 12 = .ok (.dup, 1) := by decide +kernel
theorem dX2_add_13 : decode cX2_add 13 = .ok (.ldc 59, 2) := by decide +kernel
theorem dX2_add_15 : decode cX2_add 15 = .ok (.invokespecial 41, 3) := by decide +kernel
theorem dX2_add_18 : decode cX2_add 18 = .ok (.athrow, 1) := by decide +kernel
theorem dX2_add_19 : decode cX2_add 19 = .ok (.aload_n 0, 1) := by decide +kernel
theorem dX2_add_20 : decode cX2_add 20 = .ok (.getfield 21, 3) := by decide +kernel
theorem dX2_add_23 : decode cX2_add 23 = .ok (.bipush 8, 2) := by decide +kernel
theorem dX2_add_25 : decode cX2_add 25 = .ok (.if_icmp .ge 7, 3) := by decide +kernel
theorem dX2_add_28 : decode cX2_add 28 = .ok (.iconst 1, 1) := by decide +kernel
theorem dX2_add_29 : decode cX2_add 29 = .ok (.goto 4, 3) := by decide +kernel
theorem dX2_add_32 : decode cX2_add 32 = .ok (.iconst 0, 1) := by decide +kernel
theorem dX2_add_33 : decode cX2_add 33 = .ok (.invokestatic 61, 3) := by decide +kernel
theorem dX2_add_36 : decode cX2_add 36 = .ok (.aload_n 0, 1) := by decide +kernel
theorem dX2_add_37 : decode cX2_add 37 = .ok (.getfield 21, 3) := by decide +kernel
theorem dX2_add_40 : decode cX2_add 40 = .ok (.istore_n 2, 1) := by decide +kernel
theorem dX2_add_41 : decode cX2_add 41 = .ok (.aload_n 0, 1) := by decide +kernel
theorem dX2_add_42 : decode cX2_add 42 = .ok (.getfield 17, 3) := by decide +kernel
theorem dX2_add_45 : decode cX2_add 45 = .ok (.iload_n 2, 1) := by decide +kernel
theorem dX2_add_46 : decode cX2_add 46 = .ok (.aaload, 1) := by decide +kernel
theorem dX2_add_47 : decode cX2_add 47 = .ok (.iload_n 1, 1) := by decide +kernel
theorem dX2_add_48 : decode cX2_add 48 = .ok (.putfield 65, 3) := by decide +kernel
theorem dX2_add_51 : decode cX2_add 51 = .ok (.aload_n 0, 1) := by decide +kernel
theorem dX2_add_52 : decode cX2_add 52 = .ok (.iload_n 2, 1) := by decide +kernel
theorem dX2_add_53 : decode cX2_add 53 = .ok (.iconst 1, 1) := by decide +kernel
theorem dX2_add_54 : decode cX2_add 54 = .ok (.iadd, 1) := by decide +kernel
theorem dX2_add_55 : decode cX2_add 55 = .ok (.putfield 21, 3) := by decide +kernel
theorem dX2_add_58 : decode cX2_add 58 = .ok (.iload_n 2, 1) := by decide +kernel
theorem dX2_add_59 : decode cX2_add 59 = .ok (.ireturn, 1) := by decide +kernel
theorem dX2_farmers_0 : decode cX2_farmers 0 = .ok (.aload_n 0, 1) := by decide +kernel
theorem dX2_farmers_1 : decode cX2_farmers 1 = .ok (.getfield 21, 3) := by decide +kernel
theorem dX2_farmers_4 : decode cX2_farmers 4 = .ok (.ireturn, 1) := by decide +kernel
set_option maxRecDepth 20000 in
theorem ggX2_plant_X2_farmerAt : GoodIn wsX2_plant wsX2_farmerAt := goodIn_ca (goodIn_r _ [10, 11, 12, 13, 14, 42, 43, 44, 45, 46] (by decide +kernel) (by decide +kernel)) (goodIn_sub (fun _ h => List.mem_cons_of_mem _ (List.mem_append_left _ (List.mem_append_left _ (List.mem_append_right _ h)))) (by decide +kernel))
set_option maxRecDepth 20000 in
theorem gX2_plant_X2_farmerAt : GoodIn wsX2_plant (wsV RX2 68 RX2 yX2_farmerAt wsX2_farmerAt) := goodIn_app (goodIn_of _ (by decide +kernel)) ggX2_plant_X2_farmerAt
set_option maxRecDepth 20000 in
theorem ggX2_plant_X2_cropAt : GoodIn wsX2_plant wsX2_cropAt := goodIn_ca (goodIn_r _ [18, 11, 12, 19, 42, 43, 44, 45, 46] (by decide +kernel) (by decide +kernel)) (goodIn_sub (fun _ h => List.mem_cons_of_mem _ (List.mem_append_left _ (List.mem_append_left _ (List.mem_append_right _ h)))) (by decide +kernel))
set_option maxRecDepth 20000 in
theorem gX2_plant_X2_cropAt : GoodIn wsX2_plant (wsV RX2 33 RX2 yX2_cropAt wsX2_cropAt) := goodIn_app (goodIn_of _ (by decide +kernel)) ggX2_plant_X2_cropAt
set_option maxRecDepth 20000 in
theorem ggX2_plant_X2_requireRange : GoodIn wsX2_plant wsX2_requireRange := goodIn_ca (goodIn_r _ [22, 23, 24] (by decide +kernel) (by decide +kernel)) (goodIn_sub (fun _ h => List.mem_cons_of_mem _ (List.mem_append_left _ (List.mem_append_right _ h))) (by decide +kernel))
set_option maxRecDepth 20000 in
theorem gX2_plant_X2_requireRange : GoodIn wsX2_plant (va_wsS RX2 45 yX2_requireRange wsX2_requireRange) := goodIn_app (goodIn_of _ (by decide +kernel)) ggX2_plant_X2_requireRange
set_option maxRecDepth 20000 in
theorem ggX2_plant_X1_hasPlanted : GoodIn wsX2_plant wsX1_hasPlanted := goodIn_r _ [29, 30, 47, 48, 49, 50, 51, 52, 53, 54, 55, 56, 57, 58, 59, 60, 61, 62, 63] (by decide +kernel) (by decide +kernel)
set_option maxRecDepth 20000 in
theorem gX2_plant_X1_hasPlanted : GoodIn wsX2_plant (wsV RX2 72 RX1 yX1_hasPlanted wsX1_hasPlanted) := goodIn_app (goodIn_of _ (by decide +kernel)) ggX2_plant_X1_hasPlanted
set_option maxRecDepth 20000 in
theorem ggX2_plant_X2_requireState : GoodIn wsX2_plant wsX2_requireState := goodIn_ca (goodIn_r _ [33, 34, 35] (by decide +kernel) (by decide +kernel)) (goodIn_sub (fun _ h => List.mem_cons_of_mem _ (List.mem_append_right _ h)) (by decide +kernel))
set_option maxRecDepth 20000 in
theorem gX2_plant_X2_requireState : GoodIn wsX2_plant (va_wsS RX2 61 yX2_requireState wsX2_requireState) := goodIn_app (goodIn_of _ (by decide +kernel)) ggX2_plant_X2_requireState
set_option maxRecDepth 20000 in
theorem ggX2_plant_X0_needUpTo : GoodIn wsX2_plant wsX0_needUpTo := goodIn_r _ [40, 41, 64, 65, 66] (by decide +kernel) (by decide +kernel)
set_option maxRecDepth 20000 in
theorem gX2_plant_X0_needUpTo : GoodIn wsX2_plant (wsV RX2 88 RX0 yX0_needUpTo wsX0_needUpTo) := goodIn_app (goodIn_of _ (by decide +kernel)) ggX2_plant_X0_needUpTo
theorem dX2_plant_0 : decode cX2_plant 0 = .ok (.aload_n 0, 1) := by decide +kernel
theorem dX2_plant_1 : decode cX2_plant 1 = .ok (.iload_n 1, 1) := by decide +kernel
theorem dX2_plant_2 : decode cX2_plant 2 = .ok (.invokevirtual 68, 3) := by decide +kernel
theorem dX2_plant_5 : decode cX2_plant 5 = .ok (.astore 4, 2) := by decide +kernel
theorem dX2_plant_7 : decode cX2_plant 7 = .ok (.aload_n 0, 1) := by decide +kernel
theorem dX2_plant_8 : decode cX2_plant 8 = .ok (.iload_n 2, 1) := by decide +kernel
theorem dX2_plant_9 : decode cX2_plant 9 = .ok (.invokevirtual 33, 3) := by decide +kernel
theorem dX2_plant_12 : decode cX2_plant 12 = .ok (.astore 5, 2) := by decide +kernel
theorem dX2_plant_14 : decode cX2_plant 14 = .ok (.iload_n 3, 1) := by decide +kernel
theorem dX2_plant_15 : decode cX2_plant 15 = .ok (.iconst 1, 1) := by decide +kernel
theorem dX2_plant_16 : decode cX2_plant 16 = .ok (.bipush 50, 2) := by decide +kernel
theorem dX2_plant_18 : decode cX2_plant 18 = .ok (.invokestatic 45, 3) := by decide +kernel
theorem dX2_plant_21 : decode cX2_plant 21 = .ok (.aload_n 0, 1) := by decide +kernel
theorem dX2_plant_22 : decode cX2_plant 22 = .ok (.getfield 28, 3) := by decide +kernel
theorem dX2_plant_25 : decode cX2_plant 25 = .ok (.ifCond .ne 15, 3) := by decide +kernel
theorem dX2_plant_28 : decode cX2_plant 28 = .ok (.aload 4, 2) := by decide +kernel
theorem dX2_plant_30 : decode cX2_plant 30 = .ok (.invokevirtual 72, 3) := by decide +kernel
theorem dX2_plant_33 : decode cX2_plant 33 = .ok (.ifCond .ne 7, 3) := by decide +kernel
theorem dX2_plant_36 : decode cX2_plant 36 = .ok (.iconst 1, 1) := by decide +kernel
theorem dX2_plant_37 : decode cX2_plant 37 = .ok (.goto 4, 3) := by decide +kernel
theorem dX2_plant_40 : decode cX2_plant 40 = .ok (.iconst 0, 1) := by decide +kernel
theorem dX2_plant_41 : decode cX2_plant 41 = .ok (.invokestatic 61, 3) := by decide +kernel
theorem dX2_plant_44 : decode cX2_plant 44 = .ok (.aload 4, 2) := by decide +kernel
theorem dX2_plant_46 : decode cX2_plant 46 = .ok (.getfield 76, 3) := by decide +kernel
theorem dX2_plant_49 : decode cX2_plant 49 = .ok (.ifCond .eq 12, 3) := by decide +kernel
theorem dX2_plant_52 : decode cX2_plant 52 = .ok (.aload 4, 2) := by decide +kernel
theorem dX2_plant_54 : decode cX2_plant 54 = .ok (.getfield 79, 3) := by decide +kernel
theorem dX2_plant_57 : decode cX2_plant 57 = .ok (.iload_n 2, 1) := by decide +kernel
theorem dX2_plant_58 : decode cX2_plant 58 = .ok (.if_icmp .ne 7, 3) := by decide +kernel
theorem dX2_plant_61 : decode cX2_plant 61 = .ok (.iconst 1, 1) := by decide +kernel
theorem dX2_plant_62 : decode cX2_plant 62 = .ok (.goto 4, 3) := by decide +kernel
theorem dX2_plant_65 : decode cX2_plant 65 = .ok (.iconst 0, 1) := by decide +kernel
theorem dX2_plant_66 : decode cX2_plant 66 = .ok (.invokestatic 61, 3) := by decide +kernel
theorem dX2_plant_69 : decode cX2_plant 69 = .ok (.aload 4, 2) := by decide +kernel
theorem dX2_plant_71 : decode cX2_plant 71 = .ok (.iload_n 2, 1) := by decide +kernel
theorem dX2_plant_72 : decode cX2_plant 72 = .ok (.putfield 82, 3) := by decide +kernel
theorem dX2_plant_75 : decode cX2_plant 75 = .ok (.aload 4, 2) := by decide +kernel
theorem dX2_plant_77 : decode cX2_plant 77 = .ok (.iload_n 3, 1) := by decide +kernel
theorem dX2_plant_78 : decode cX2_plant 78 = .ok (.putfield 85, 3) := by decide +kernel
theorem dX2_plant_81 : decode cX2_plant 81 = .ok (.aload 5, 2) := by decide +kernel
theorem dX2_plant_83 : decode cX2_plant 83 = .ok (.aload_n 0, 1) := by decide +kernel
theorem dX2_plant_84 : decode cX2_plant 84 = .ok (.getfield 28, 3) := by decide +kernel
theorem dX2_plant_87 : decode cX2_plant 87 = .ok (.invokevirtual 88, 3) := by decide +kernel
theorem dX2_plant_90 : decode cX2_plant 90 = .ok (.iload_n 3, 1) := by decide +kernel
theorem dX2_plant_91 : decode cX2_plant 91 = .ok (.imul, 1) := by decide +kernel
theorem dX2_plant_92 : decode cX2_plant 92 = .ok (.ireturn, 1) := by decide +kernel
set_option maxRecDepth 20000 in
theorem ggX2_cover_X2_farmerAt : GoodIn wsX2_cover wsX2_farmerAt := goodIn_ca (goodIn_r _ [7, 8, 9, 10, 11, 28, 29, 30, 31, 32] (by decide +kernel) (by decide +kernel)) (goodIn_sub (fun _ h => List.mem_cons_of_mem _ (List.mem_append_left _ (List.mem_append_left _ (List.mem_append_right _ h)))) (by decide +kernel))
set_option maxRecDepth 20000 in
theorem gX2_cover_X2_farmerAt : GoodIn wsX2_cover (wsV RX2 68 RX2 yX2_farmerAt wsX2_farmerAt) := goodIn_app (goodIn_of _ (by decide +kernel)) ggX2_cover_X2_farmerAt
set_option maxRecDepth 20000 in
theorem ggX2_cover_X2_requireRange : GoodIn wsX2_cover wsX2_requireRange := goodIn_ca (goodIn_r _ [14, 15, 16] (by decide +kernel) (by decide +kernel)) (goodIn_sub (fun _ h => List.mem_cons_of_mem _ (List.mem_append_left _ (List.mem_append_right _ h))) (by decide +kernel))
set_option maxRecDepth 20000 in
theorem gX2_cover_X2_requireRange : GoodIn wsX2_cover (va_wsS RX2 45 yX2_requireRange wsX2_requireRange) := goodIn_app (goodIn_of _ (by decide +kernel)) ggX2_cover_X2_requireRange
set_option maxRecDepth 20000 in
theorem ggX2_cover_X1_hasPlanted : GoodIn wsX2_cover wsX1_hasPlanted := goodIn_r _ [21, 22, 33, 34, 35, 36, 37, 38, 39, 40, 41, 42, 43, 44, 45, 46, 47, 48, 49] (by decide +kernel) (by decide +kernel)
set_option maxRecDepth 20000 in
theorem gX2_cover_X1_hasPlanted : GoodIn wsX2_cover (wsV RX2 72 RX1 yX1_hasPlanted wsX1_hasPlanted) := goodIn_app (goodIn_of _ (by decide +kernel)) ggX2_cover_X1_hasPlanted
set_option maxRecDepth 20000 in
theorem ggX2_cover_X2_requireState : GoodIn wsX2_cover wsX2_requireState := goodIn_ca (goodIn_r _ [25, 26, 27] (by decide +kernel) (by decide +kernel)) (goodIn_sub (fun _ h => List.mem_cons_of_mem _ (List.mem_append_right _ h)) (by decide +kernel))
set_option maxRecDepth 20000 in
theorem gX2_cover_X2_requireState : GoodIn wsX2_cover (va_wsS RX2 61 yX2_requireState wsX2_requireState) := goodIn_app (goodIn_of _ (by decide +kernel)) ggX2_cover_X2_requireState
theorem dX2_cover_0 : decode cX2_cover 0 = .ok (.aload_n 0, 1) := by decide +kernel
theorem dX2_cover_1 : decode cX2_cover 1 = .ok (.iload_n 1, 1) := by decide +kernel
theorem dX2_cover_2 : decode cX2_cover 2 = .ok (.invokevirtual 68, 3) := by decide +kernel
theorem dX2_cover_5 : decode cX2_cover 5 = .ok (.astore_n 3, 1) := by decide +kernel
theorem dX2_cover_6 : decode cX2_cover 6 = .ok (.iload_n 2, 1) := by decide +kernel
theorem dX2_cover_7 : decode cX2_cover 7 = .ok (.iconst 1, 1) := by decide +kernel
theorem dX2_cover_8 : decode cX2_cover 8 = .ok (.bipush 90, 2) := by decide +kernel
theorem dX2_cover_10 : decode cX2_cover 10 = .ok (.invokestatic 45, 3) := by decide +kernel
theorem dX2_cover_13 : decode cX2_cover 13 = .ok (.aload_n 0, 1) := by decide +kernel
theorem dX2_cover_14 : decode cX2_cover 14 = .ok (.getfield 28, 3) := by decide +kernel
theorem dX2_cover_17 : decode cX2_cover 17 = .ok (.ifCond .ne 14, 3) := by decide +kernel
theorem dX2_cover_20 : decode cX2_cover 20 = .ok (.aload_n 3, 1) := by decide +kernel
theorem dX2_cover_21 : decode cX2_cover 21 = .ok (.invokevirtual 72, 3) := by decide +kernel
theorem dX2_cover_24 : decode cX2_cover 24 = .ok (.ifCond .eq 7, 3) := by decide +kernel
theorem dX2_cover_27 : decode cX2_cover 27 = .ok (.iconst 1, 1) := by decide +kernel
theorem dX2_cover_28 : decode cX2_cover 28 = .ok (.goto 4, 3) := by decide +kernel
theorem dX2_cover_31 : decode cX2_cover 31 = .ok (.iconst 0, 1) := by decide +kernel
theorem dX2_cover_32 : decode cX2_cover 32 = .ok (.invokestatic 61, 3) := by decide +kernel
theorem dX2_cover_35 : decode cX2_cover 35 = .ok (.aload_n 3, 1) := by decide +kernel
theorem dX2_cover_36 : decode cX2_cover 36 = .ok (.getfield 92, 3) := by decide +kernel
theorem dX2_cover_39 : decode cX2_cover 39 = .ok (.istore 4, 2) := by decide +kernel
theorem dX2_cover_41 : decode cX2_cover 41 = .ok (.aload_n 3, 1) := by decide +kernel
theorem dX2_cover_42 : decode cX2_cover 42 = .ok (.iload_n 2, 1) := by decide +kernel
theorem dX2_cover_43 : decode cX2_cover 43 = .ok (.putfield 92, 3) := by decide +kernel
theorem dX2_cover_46 : decode cX2_cover 46 = .ok (.iload 4, 2) := by decide +kernel
theorem dX2_cover_48 : decode cX2_cover 48 = .ok (.ireturn, 1) := by decide +kernel
set_option maxRecDepth 20000 in
theorem ggX2_draw_X2_farmerAt : GoodIn wsX2_draw wsX2_farmerAt := goodIn_ca (goodIn_r _ [8, 9, 10, 11, 12, 52, 53, 54, 55, 56] (by decide +kernel) (by decide +kernel)) (goodIn_sub (fun _ h => List.mem_cons_of_mem _ (List.mem_append_left _ (List.mem_append_left _ (List.mem_append_right _ h)))) (by decide +kernel))
set_option maxRecDepth 20000 in
theorem gX2_draw_X2_farmerAt : GoodIn wsX2_draw (wsV RX2 68 RX2 yX2_farmerAt wsX2_farmerAt) := goodIn_app (goodIn_of _ (by decide +kernel)) ggX2_draw_X2_farmerAt
set_option maxRecDepth 20000 in
theorem ggX2_draw_X2_requireRange : GoodIn wsX2_draw wsX2_requireRange := goodIn_ca (goodIn_r _ [15, 16, 17] (by decide +kernel) (by decide +kernel)) (goodIn_sub (fun _ h => List.mem_cons_of_mem _ (List.mem_append_left _ (List.mem_append_right _ h))) (by decide +kernel))
set_option maxRecDepth 20000 in
theorem gX2_draw_X2_requireRange : GoodIn wsX2_draw (va_wsS RX2 45 yX2_requireRange wsX2_requireRange) := goodIn_app (goodIn_of _ (by decide +kernel)) ggX2_draw_X2_requireRange
set_option maxRecDepth 20000 in
theorem ggX2_draw_X2_requireState : GoodIn wsX2_draw wsX2_requireState := goodIn_ca (goodIn_r _ [20, 21, 22] (by decide +kernel) (by decide +kernel)) (goodIn_sub (fun _ h => List.mem_cons_of_mem _ (List.mem_append_right _ h)) (by decide +kernel))
set_option maxRecDepth 20000 in
theorem gX2_draw_X2_requireState : GoodIn wsX2_draw (va_wsS RX2 61 yX2_requireState wsX2_requireState) := goodIn_app (goodIn_of _ (by decide +kernel)) ggX2_draw_X2_requireState
set_option maxRecDepth 20000 in
theorem ggX2_draw_X2_limitOf : GoodIn wsX2_draw wsX2_limitOf := goodIn_ca (goodIn_r _ [26, 27, 2, 28, 29, 30, 31, 32, 33, 34, 35, 36, 37, 7, 38, 9, 10, 39, 40, 41, 42, 43, 44, 45, 57, 58, 59, 60, 61, 62, 63, 64, 65, 66, 67, 68, 69, 70, 71, 72, 73, 52, 53, 54, 55, 56, 74, 75, 76] (by decide +kernel) (by decide +kernel)) (goodIn_sub (fun _ h => List.mem_cons_of_mem _ (List.mem_append_left _ (List.mem_append_left _ (List.mem_append_right _ h)))) (by decide +kernel))
set_option maxRecDepth 20000 in
theorem gX2_draw_X2_limitOf : GoodIn wsX2_draw (wsV RX2 96 RX2 yX2_limitOf wsX2_limitOf) := goodIn_app (goodIn_of _ (by decide +kernel)) ggX2_draw_X2_limitOf
set_option maxRecDepth 20000 in
theorem ggX2_draw_X1_charge : GoodIn wsX2_draw wsX1_charge := goodIn_r _ [49, 50, 51, 57, 58, 59, 60, 61, 62, 63, 64, 65, 66, 67, 68, 69, 70, 71, 72, 73] (by decide +kernel) (by decide +kernel)
set_option maxRecDepth 20000 in
theorem gX2_draw_X1_charge : GoodIn wsX2_draw (wsV RX2 103 RX1 yX1_charge wsX1_charge) := goodIn_app (goodIn_of _ (by decide +kernel)) ggX2_draw_X1_charge
theorem dX2_draw_0 : decode cX2_draw 0 = .ok (.aload_n 0, 1) := by decide +kernel
theorem dX2_draw_1 : decode cX2_draw 1 = .ok (.iload_n 1, 1) := by decide +kernel
theorem dX2_draw_2 : decode cX2_draw 2 = .ok (.invokevirtual 68, 3) := by decide +kernel
theorem dX2_draw_5 : decode cX2_draw 5 = .ok (.astore_n 3, 1) := by decide +kernel
theorem dX2_draw_6 : decode cX2_draw 6 = .ok (.iload_n 2, 1) := by decide +kernel
theorem dX2_draw_7 : decode cX2_draw 7 = .ok (.iconst 1, 1) := by decide +kernel
theorem dX2_draw_8 : decode cX2_draw 8 = .ok (.ldc 95, 2) := by decide +kernel
theorem dX2_draw_10 : decode cX2_draw 10 = .ok (.invokestatic 45, 3) := by decide +kernel
theorem dX2_draw_13 : decode cX2_draw 13 = .ok (.aload_n 0, 1) := by decide +kernel
theorem dX2_draw_14 : decode cX2_draw 14 = .ok (.getfield 28, 3) := by decide +kernel
theorem dX2_draw_17 : decode cX2_draw 17 = .ok (.iconst 4, 1) := by decide +kernel
theorem dX2_draw_18 : decode cX2_draw 18 = .ok (.if_icmp .ge 7, 3) := by decide +kernel
theorem dX2_draw_21 : decode cX2_draw 21 = .ok (.iconst 1, 1) := by decide +kernel
theorem dX2_draw_22 : decode cX2_draw 22 = .ok (.goto 4, 3) := by decide +kernel
theorem dX2_draw_25 : decode cX2_draw 25 = .ok (.iconst 0, 1) := by decide +kernel
theorem dX2_draw_26 : decode cX2_draw 26 = .ok (.invokestatic 61, 3) := by decide +kernel
theorem dX2_draw_29 : decode cX2_draw 29 = .ok (.aload_n 0, 1) := by decide +kernel
theorem dX2_draw_30 : decode cX2_draw 30 = .ok (.aload_n 3, 1) := by decide +kernel
theorem dX2_draw_31 : decode cX2_draw 31 = .ok (.invokevirtual 96, 3) := by decide +kernel
theorem dX2_draw_34 : decode cX2_draw 34 = .ok (.aload_n 3, 1) := by decide +kernel
theorem dX2_draw_35 : decode cX2_draw 35 = .ok (.getfield 100, 3) := by decide +kernel
theorem dX2_draw_38 : decode cX2_draw 38 = .ok (.isub, 1) := by decide +kernel
theorem dX2_draw_39 : decode cX2_draw 39 = .ok (.istore 4, 2) := by decide +kernel
theorem dX2_draw_41 : decode cX2_draw 41 = .ok (.iload_n 2, 1) := by decide +kernel
theorem dX2_draw_42 : decode cX2_draw 42 = .ok (.iload 4, 2) := by decide +kernel
theorem dX2_draw_44 : decode cX2_draw 44 = .ok (.if_icmp .gt 7, 3) := by decide +kernel
theorem dX2_draw_47 : decode cX2_draw 47 = .ok (.iconst 1, 1) := by decide +kernel
theorem dX2_draw_48 : decode cX2_draw 48 = .ok (.goto 4, 3) := by decide +kernel
theorem dX2_draw_51 : decode cX2_draw 51 = .ok (.iconst 0, 1) := by decide +kernel
theorem dX2_draw_52 : decode cX2_draw 52 = .ok (.invokestatic 61, 3) := by decide +kernel
theorem dX2_draw_55 : decode cX2_draw 55 = .ok (.aload_n 3, 1) := by decide +kernel
theorem dX2_draw_56 : decode cX2_draw 56 = .ok (.dup, 1) := by decide +kernel
theorem dX2_draw_57 : decode cX2_draw 57 = .ok (.getfield 100, 3) := by decide +kernel
theorem dX2_draw_60 : decode cX2_draw 60 = .ok (.iload_n 2, 1) := by decide +kernel
theorem dX2_draw_61 : decode cX2_draw 61 = .ok (.iadd, 1) := by decide +kernel
theorem dX2_draw_62 : decode cX2_draw 62 = .ok (.putfield 100, 3) := by decide +kernel
theorem dX2_draw_65 : decode cX2_draw 65 = .ok (.aload_n 3, 1) := by decide +kernel
theorem dX2_draw_66 : decode cX2_draw 66 = .ok (.iload_n 2, 1) := by decide +kernel
theorem dX2_draw_67 : decode cX2_draw 67 = .ok (.i2l, 1) := by decide +kernel
theorem dX2_draw_68 : decode cX2_draw 68 = .ok (.invokevirtual 103, 3) := by decide +kernel
theorem dX2_draw_71 : decode cX2_draw 71 = .ok (.iload 4, 2) := by decide +kernel
theorem dX2_draw_73 : decode cX2_draw 73 = .ok (.iload_n 2, 1) := by decide +kernel
theorem dX2_draw_74 : decode cX2_draw 74 = .ok (.isub, 1) := by decide +kernel
theorem dX2_draw_75 : decode cX2_draw 75 = .ok (.ireturn, 1) := by decide +kernel
set_option maxRecDepth 20000 in
theorem ggX2_setYield_X2_farmerAt : GoodIn wsX2_setYield wsX2_farmerAt := goodIn_ca (goodIn_r _ [7, 8, 9, 10, 11, 22, 23, 24, 25, 26] (by decide +kernel) (by decide +kernel)) (goodIn_sub (fun _ h => List.mem_cons_of_mem _ (List.mem_append_left _ (List.mem_append_left _ (List.mem_append_right _ h)))) (by decide +kernel))
set_option maxRecDepth 20000 in
theorem gX2_setYield_X2_farmerAt : GoodIn wsX2_setYield (wsV RX2 68 RX2 yX2_farmerAt wsX2_farmerAt) := goodIn_app (goodIn_of _ (by decide +kernel)) ggX2_setYield_X2_farmerAt
set_option maxRecDepth 20000 in
theorem ggX2_setYield_X2_requireRange : GoodIn wsX2_setYield wsX2_requireRange := goodIn_ca (goodIn_r _ [14, 15, 16] (by decide +kernel) (by decide +kernel)) (goodIn_sub (fun _ h => List.mem_cons_of_mem _ (List.mem_append_left _ (List.mem_append_right _ h))) (by decide +kernel))
set_option maxRecDepth 20000 in
theorem gX2_setYield_X2_requireRange : GoodIn wsX2_setYield (va_wsS RX2 45 yX2_requireRange wsX2_requireRange) := goodIn_app (goodIn_of _ (by decide +kernel)) ggX2_setYield_X2_requireRange
set_option maxRecDepth 20000 in
theorem ggX2_setYield_X2_requireState : GoodIn wsX2_setYield wsX2_requireState := goodIn_ca (goodIn_r _ [19, 20, 21] (by decide +kernel) (by decide +kernel)) (goodIn_sub (fun _ h => List.mem_cons_of_mem _ (List.mem_append_right _ h)) (by decide +kernel))
set_option maxRecDepth 20000 in
theorem gX2_setYield_X2_requireState : GoodIn wsX2_setYield (va_wsS RX2 61 yX2_requireState wsX2_requireState) := goodIn_app (goodIn_of _ (by decide +kernel)) ggX2_setYield_X2_requireState
theorem dX2_setYield_0 : decode cX2_setYield 0 = .ok (.aload_n 0, 1) := by decide +kernel
theorem dX2_setYield_1 : decode cX2_setYield 1 = .ok (.iload_n 1, 1) := by decide +kernel
theorem dX2_setYield_2 : decode cX2_setYield 2 = .ok (.invokevirtual 68, 3) := by decide +kernel
theorem dX2_setYield_5 : decode cX2_setYield 5 = .ok (.astore_n 3, 1) := by decide +kernel
theorem dX2_setYield_6 : decode cX2_setYield 6 = .ok (.iload_n 2, 1) := by decide +kernel
theorem dX2_setYield_7 : decode cX2_setYield 7 = .ok (.iconst 0, 1) := by decide +kernel
theorem dX2_setYield_8 : decode cX2_setYield 8 = .ok (.sipush 200, 3) := by decide +kernel
theorem dX2_setYield_11 : decode cX2_setYield 11 = .ok (.invokestatic 45, 3) := by decide +kernel
theorem dX2_setYield_14 : decode cX2_setYield 14 = .ok (.aload_n 0, 1) := by decide +kernel
theorem dX2_setYield_15 : decode cX2_setYield 15 = .ok (.getfield 28, 3) := by decide +kernel
theorem dX2_setYield_18 : decode cX2_setYield 18 = .ok (.iconst 4, 1) := by decide +kernel
theorem dX2_setYield_19 : decode cX2_setYield 19 = .ok (.if_icmp .ge 7, 3) := by decide +kernel
theorem dX2_setYield_22 : decode cX2_setYield 22 = .ok (.iconst 1, 1) := by decide +kernel
theorem dX2_setYield_23 : decode cX2_setYield 23 = .ok (.goto 4, 3) := by decide +kernel
theorem dX2_setYield_26 : decode cX2_setYield 26 = .ok (.iconst 0, 1) := by decide +kernel
theorem dX2_setYield_27 : decode cX2_setYield 27 = .ok (.invokestatic 61, 3) := by decide +kernel
theorem dX2_setYield_30 : decode cX2_setYield 30 = .ok (.aload_n 3, 1) := by decide +kernel
theorem dX2_setYield_31 : decode cX2_setYield 31 = .ok (.getfield 107, 3) := by decide +kernel
theorem dX2_setYield_34 : decode cX2_setYield 34 = .ok (.istore 4, 2) := by decide +kernel
theorem dX2_setYield_36 : decode cX2_setYield 36 = .ok (.aload_n 3, 1) := by decide +kernel
theorem dX2_setYield_37 : decode cX2_setYield 37 = .ok (.iload_n 2, 1) := by decide +kernel
theorem dX2_setYield_38 : decode cX2_setYield 38 = .ok (.putfield 107, 3) := by decide +kernel
theorem dX2_setYield_41 : decode cX2_setYield 41 = .ok (.iload 4, 2) := by decide +kernel
theorem dX2_setYield_43 : decode cX2_setYield 43 = .ok (.ireturn, 1) := by decide +kernel
set_option maxRecDepth 20000 in
theorem ggX2_next_X2_requireState : GoodIn wsX2_next wsX2_requireState := goodIn_ca (goodIn_r _ [7, 8, 9] (by decide +kernel) (by decide +kernel)) (goodIn_sub (fun _ h => List.mem_cons_of_mem _ (List.mem_append_left _ (List.mem_append_right _ h))) (by decide +kernel))
set_option maxRecDepth 20000 in
theorem gX2_next_X2_requireState : GoodIn wsX2_next (va_wsS RX2 61 yX2_requireState wsX2_requireState) := goodIn_app (goodIn_of _ (by decide +kernel)) ggX2_next_X2_requireState
set_option maxRecDepth 20000 in
theorem ggX2_next_X1_chargeInterest : GoodIn wsX2_next wsX1_chargeInterest := goodIn_r _ [14, 15, 16, 17, 18, 19, 20, 13, 21, 22, 70, 71, 72, 73, 74, 75, 76, 77, 78, 79, 80, 81, 82, 83, 84, 85, 86] (by decide +kernel) (by decide +kernel)
set_option maxRecDepth 20000 in
theorem gX2_next_X1_chargeInterest : GoodIn wsX2_next (wsV RX2 110 RX1 yX1_chargeInterest wsX1_chargeInterest) := goodIn_app (goodIn_of _ (by decide +kernel)) ggX2_next_X1_chargeInterest
set_option maxRecDepth 20000 in
theorem ggX2_next_X2_harvestAll : GoodIn wsX2_next wsX2_harvestAll := goodIn_ca (goodIn_r _ [26, 2, 3, 27, 28, 29, 30, 13, 31, 32, 33, 34, 35, 6, 36, 37, 38, 39, 40, 41, 42, 43, 44, 45, 46, 47, 48, 49, 50, 17, 51, 52, 53, 54, 15, 55, 56, 57, 58, 59, 60, 61, 62, 63, 64, 65, 66, 67, 68, 69, 70, 71, 72, 73, 74, 75, 76, 77, 78, 79, 80, 81, 82, 83, 84, 85, 86, 87, 88, 89] (by decide +kernel) (by decide +kernel)) (goodIn_sub (fun _ h => List.mem_cons_of_mem _ (List.mem_append_right _ h)) (by decide +kernel))
set_option maxRecDepth 20000 in
theorem gX2_next_X2_harvestAll : GoodIn wsX2_next (wsV RX2 113 RX2 yX2_harvestAll wsX2_harvestAll) := goodIn_app (goodIn_of _ (by decide +kernel)) ggX2_next_X2_harvestAll
theorem dX2_next_0 : decode cX2_next 0 = .ok (.aload_n 0, 1) := by decide +kernel
theorem dX2_next_1 : decode cX2_next 1 = .ok (.getfield 28, 3) := by decide +kernel
theorem dX2_next_4 : decode cX2_next 4 = .ok (.iconst 4, 1) := by decide +kernel
theorem dX2_next_5 : decode cX2_next 5 = .ok (.if_icmp .ge 7, 3) := by decide +kernel
theorem dX2_next_8 : decode cX2_next 8 = .ok (.iconst 1, 1) := by decide +kernel
theorem dX2_next_9 : decode cX2_next 9 = .ok (.goto 4, 3) := by decide +kernel
theorem dX2_next_12 : decode cX2_next 12 = .ok (.iconst 0, 1) := by decide +kernel
theorem dX2_next_13 : decode cX2_next 13 = .ok (.invokestatic 61, 3) := by decide +kernel
theorem dX2_next_16 : decode cX2_next 16 = .ok (.aload_n 0, 1) := by decide +kernel
theorem dX2_next_17 : decode cX2_next 17 = .ok (.dup, 1) := by decide +kernel
theorem dX2_next_18 : decode cX2_next 18 = .ok (.getfield 28, 3) := by decide +kernel
theorem dX2_next_21 : decode cX2_next 21 = .ok (.iconst 1, 1) := by decide +kernel
theorem dX2_next_22 : decode cX2_next 22 = .ok (.iadd, 1) := by decide +kernel
theorem dX2_next_23 : decode cX2_next 23 = .ok (.putfield 28, 3) := by decide +kernel
theorem dX2_next_26 : decode cX2_next 26 = .ok (.iconst 0, 1) := by decide +kernel
theorem dX2_next_27 : decode cX2_next 27 = .ok (.istore_n 1, 1) := by decide +kernel
theorem dX2_next_28 : decode cX2_next 28 = .ok (.iload_n 1, 1) := by decide +kernel
theorem dX2_next_29 : decode cX2_next 29 = .ok (.aload_n 0, 1) := by decide +kernel
theorem dX2_next_30 : decode cX2_next 30 = .ok (.getfield 21, 3) := by decide +kernel
theorem dX2_next_33 : decode cX2_next 33 = .ok (.if_icmp .ge 18, 3) := by decide +kernel
theorem dX2_next_36 : decode cX2_next 36 = .ok (.aload_n 0, 1) := by decide +kernel
theorem dX2_next_37 : decode cX2_next 37 = .ok (.getfield 17, 3) := by decide +kernel
theorem dX2_next_40 : decode cX2_next 40 = .ok (.iload_n 1, 1) := by decide +kernel
theorem dX2_next_41 : decode cX2_next 41 = .ok (.aaload, 1) := by decide +kernel
theorem dX2_next_42 : decode cX2_next 42 = .ok (.invokevirtual 110, 3) := by decide +kernel
theorem dX2_next_45 : decode cX2_next 45 = .ok (.iinc 1 1, 3) := by decide +kernel
theorem dX2_next_48 : decode cX2_next 48 = .ok (.goto (-20), 3) := by decide +kernel
theorem dX2_next_51 : decode cX2_next 51 = .ok (.aload_n 0, 1) := by decide +kernel
theorem dX2_next_52 : decode cX2_next 52 = .ok (.getfield 28, 3) := by decide +kernel
theorem dX2_next_55 : decode cX2_next 55 = .ok (.iconst 4, 1) := by decide +kernel
theorem dX2_next_56 : decode cX2_next 56 = .ok (.if_icmp .ne 7, 3) := by decide +kernel
theorem dX2_next_59 : decode cX2_next 59 = .ok (.aload_n 0, 1) := by decide +kernel
theorem dX2_next_60 : decode cX2_next 60 = .ok (.invokevirtual 113, 3) := by decide +kernel
theorem dX2_next_63 : decode cX2_next 63 = .ok (.aload_n 0, 1) := by decide +kernel
theorem dX2_next_64 : decode cX2_next 64 = .ok (.getfield 28, 3) := by decide +kernel
theorem dX2_next_67 : decode cX2_next 67 = .ok (.ireturn, 1) := by decide +kernel
set_option maxRecDepth 20000 in
theorem ggX2_pledge_X2_farmerAt : GoodIn wsX2_pledge wsX2_farmerAt := goodIn_ca (goodIn_r _ [8, 9, 10, 11, 12, 77, 78, 79, 80, 81] (by decide +kernel) (by decide +kernel)) (goodIn_sub (fun _ h => List.mem_cons_of_mem _ (List.mem_append_left _ (List.mem_append_left _ (List.mem_append_right _ h)))) (by decide +kernel))
set_option maxRecDepth 20000 in
theorem gX2_pledge_X2_farmerAt : GoodIn wsX2_pledge (wsV RX2 68 RX2 yX2_farmerAt wsX2_farmerAt) := goodIn_app (goodIn_of _ (by decide +kernel)) ggX2_pledge_X2_farmerAt
set_option maxRecDepth 20000 in
theorem ggX2_pledge_X2_requireRange : GoodIn wsX2_pledge wsX2_requireRange := goodIn_ca (goodIn_r _ [15, 16, 17] (by decide +kernel) (by decide +kernel)) (goodIn_sub (fun _ h => List.mem_cons_of_mem _ (List.mem_append_left _ (List.mem_append_right _ h))) (by decide +kernel))
set_option maxRecDepth 20000 in
theorem gX2_pledge_X2_requireRange : GoodIn wsX2_pledge (va_wsS RX2 45 yX2_requireRange wsX2_requireRange) := goodIn_app (goodIn_of _ (by decide +kernel)) ggX2_pledge_X2_requireRange
set_option maxRecDepth 20000 in
theorem ggX2_pledge_X1_freeGrain : GoodIn wsX2_pledge wsX1_freeGrain := goodIn_r _ [22, 23, 24, 57, 58, 59, 60, 61, 62, 63, 64, 65, 66, 67, 68, 69, 70, 71, 72, 73] (by decide +kernel) (by decide +kernel)
set_option maxRecDepth 20000 in
theorem gX2_pledge_X1_freeGrain : GoodIn wsX2_pledge (wsV RX2 117 RX1 yX1_freeGrain wsX1_freeGrain) := goodIn_app (goodIn_of _ (by decide +kernel)) ggX2_pledge_X1_freeGrain
set_option maxRecDepth 20000 in
theorem ggX2_pledge_X2_requireState : GoodIn wsX2_pledge wsX2_requireState := goodIn_ca (goodIn_r _ [27, 28, 29] (by decide +kernel) (by decide +kernel)) (goodIn_sub (fun _ h => List.mem_cons_of_mem _ (List.mem_append_right _ h)) (by decide +kernel))
set_option maxRecDepth 20000 in
theorem gX2_pledge_X2_requireState : GoodIn wsX2_pledge (va_wsS RX2 61 yX2_requireState wsX2_requireState) := goodIn_app (goodIn_of _ (by decide +kernel)) ggX2_pledge_X2_requireState
set_option maxRecDepth 20000 in
theorem ggX2_pledge_X2_cropAt : GoodIn wsX2_pledge wsX2_cropAt := goodIn_ca (goodIn_r _ [33, 9, 10, 34, 77, 78, 79, 80, 81] (by decide +kernel) (by decide +kernel)) (goodIn_sub (fun _ h => List.mem_cons_of_mem _ (List.mem_append_left _ (List.mem_append_left _ (List.mem_append_right _ h)))) (by decide +kernel))
set_option maxRecDepth 20000 in
theorem gX2_pledge_X2_cropAt : GoodIn wsX2_pledge (wsV RX2 33 RX2 yX2_cropAt wsX2_cropAt) := goodIn_app (goodIn_of _ (by decide +kernel)) ggX2_pledge_X2_cropAt
set_option maxRecDepth 20000 in
theorem ggX2_pledge_X1_pledgeUnits : GoodIn wsX2_pledge wsX1_pledgeUnits := goodIn_r _ [38, 39, 40, 24, 41, 42, 43, 44, 21, 45, 46, 47, 48, 49, 50, 51, 52, 53, 54, 55, 56, 57, 58, 59, 60, 61, 62, 63, 64, 65, 66, 67, 68, 69, 70, 71, 72, 73] (by decide +kernel) (by decide +kernel)
set_option maxRecDepth 20000 in
theorem gX2_pledge_X1_pledgeUnits : GoodIn wsX2_pledge (wsV RX2 121 RX1 yX1_pledgeUnits wsX1_pledgeUnits) := goodIn_app (goodIn_of _ (by decide +kernel)) ggX2_pledge_X1_pledgeUnits
theorem dX2_pledge_0 : decode cX2_pledge 0 = .ok (.aload_n 0, 1) := by decide +kernel
theorem dX2_pledge_1 : decode cX2_pledge 1 = .ok (.iload_n 1, 1) := by decide +kernel
theorem dX2_pledge_2 : decode cX2_pledge 2 = .ok (.invokevirtual 68, 3) := by decide +kernel
theorem dX2_pledge_5 : decode cX2_pledge 5 = .ok (.astore_n 3, 1) := by decide +kernel
theorem dX2_pledge_6 : decode cX2_pledge 6 = .ok (.iload_n 2, 1) := by decide +kernel
theorem dX2_pledge_7 : decode cX2_pledge 7 = .ok (.iconst 1, 1) := by decide +kernel
theorem dX2_pledge_8 : decode cX2_pledge 8 = .ok (.ldc 116, 2) := by decide +kernel
theorem dX2_pledge_10 : decode cX2_pledge 10 = .ok (.invokestatic 45, 3) := by decide +kernel
theorem dX2_pledge_13 : decode cX2_pledge 13 = .ok (.iload_n 2, 1) := by decide +kernel
theorem dX2_pledge_14 : decode cX2_pledge 14 = .ok (.aload_n 3, 1) := by decide +kernel
theorem dX2_pledge_15 : decode cX2_pledge 15 = .ok (.invokevirtual 117, 3) := by decide +kernel
theorem dX2_pledge_18 : decode cX2_pledge 18 = .ok (.if_icmp .gt 7, 3) := by decide +kernel
theorem dX2_pledge_21 : decode cX2_pledge 21 = .ok (.iconst 1, 1) := by decide +kernel
theorem dX2_pledge_22 : decode cX2_pledge 22 = .ok (.goto 4, 3) := by decide +kernel
theorem dX2_pledge_25 : decode cX2_pledge 25 = .ok (.iconst 0, 1) := by decide +kernel
theorem dX2_pledge_26 : decode cX2_pledge 26 = .ok (.invokestatic 61, 3) := by decide +kernel
theorem dX2_pledge_29 : decode cX2_pledge 29 = .ok (.aload_n 3, 1) := by decide +kernel
theorem dX2_pledge_30 : decode cX2_pledge 30 = .ok (.iload_n 2, 1) := by decide +kernel
theorem dX2_pledge_31 : decode cX2_pledge 31 = .ok (.aload_n 0, 1) := by decide +kernel
theorem dX2_pledge_32 : decode cX2_pledge 32 = .ok (.aload_n 3, 1) := by decide +kernel
theorem dX2_pledge_33 : decode cX2_pledge 33 = .ok (.getfield 79, 3) := by decide +kernel
theorem dX2_pledge_36 : decode cX2_pledge 36 = .ok (.invokevirtual 33, 3) := by decide +kernel
theorem dX2_pledge_39 : decode cX2_pledge 39 = .ok (.getfield 53, 3) := by decide +kernel
theorem dX2_pledge_42 : decode cX2_pledge 42 = .ok (.invokevirtual 121, 3) := by decide +kernel
theorem dX2_pledge_45 : decode cX2_pledge 45 = .ok (.l2i, 1) := by decide +kernel
theorem dX2_pledge_46 : decode cX2_pledge 46 = .ok (.ireturn, 1) := by decide +kernel
set_option maxRecDepth 20000 in
theorem ggX2_sell_X2_farmerAt : GoodIn wsX2_sell wsX2_farmerAt := goodIn_ca (goodIn_r _ [9, 10, 11, 12, 13, 88, 89, 90, 91, 92] (by decide +kernel) (by decide +kernel)) (goodIn_sub (fun _ h => List.mem_cons_of_mem _ (List.mem_append_left _ (List.mem_append_left _ (List.mem_append_right _ h)))) (by decide +kernel))
set_option maxRecDepth 20000 in
theorem gX2_sell_X2_farmerAt : GoodIn wsX2_sell (wsV RX2 68 RX2 yX2_farmerAt wsX2_farmerAt) := goodIn_app (goodIn_of _ (by decide +kernel)) ggX2_sell_X2_farmerAt
set_option maxRecDepth 20000 in
theorem ggX2_sell_X2_requireRange : GoodIn wsX2_sell wsX2_requireRange := goodIn_ca (goodIn_r _ [16, 17, 18] (by decide +kernel) (by decide +kernel)) (goodIn_sub (fun _ h => List.mem_cons_of_mem _ (List.mem_append_left _ (List.mem_append_right _ h))) (by decide +kernel))
set_option maxRecDepth 20000 in
theorem gX2_sell_X2_requireRange : GoodIn wsX2_sell (va_wsS RX2 45 yX2_requireRange wsX2_requireRange) := goodIn_app (goodIn_of _ (by decide +kernel)) ggX2_sell_X2_requireRange
set_option maxRecDepth 20000 in
theorem ggX2_sell_X2_requireState : GoodIn wsX2_sell wsX2_requireState := goodIn_ca (goodIn_r _ [21, 22, 23] (by decide +kernel) (by decide +kernel)) (goodIn_sub (fun _ h => List.mem_cons_of_mem _ (List.mem_append_right _ h)) (by decide +kernel))
set_option maxRecDepth 20000 in
theorem gX2_sell_X2_requireState : GoodIn wsX2_sell (va_wsS RX2 61 yX2_requireState wsX2_requireState) := goodIn_app (goodIn_of _ (by decide +kernel)) ggX2_sell_X2_requireState
set_option maxRecDepth 20000 in
theorem ggX2_sell_X2_cropAt : GoodIn wsX2_sell wsX2_cropAt := goodIn_ca (goodIn_r _ [27, 10, 11, 28, 88, 89, 90, 91, 92] (by decide +kernel) (by decide +kernel)) (goodIn_sub (fun _ h => List.mem_cons_of_mem _ (List.mem_append_left _ (List.mem_append_left _ (List.mem_append_right _ h)))) (by decide +kernel))
set_option maxRecDepth 20000 in
theorem gX2_sell_X2_cropAt : GoodIn wsX2_sell (wsV RX2 33 RX2 yX2_cropAt wsX2_cropAt) := goodIn_app (goodIn_of _ (by decide +kernel)) ggX2_sell_X2_cropAt
set_option maxRecDepth 20000 in
theorem ggX2_sell_X1_sellUnits : GoodIn wsX2_sell wsX1_sellUnits := goodIn_r _ [33, 34, 35, 36, 37, 38, 39, 40, 41, 42, 43, 44, 45, 46, 32, 47, 48, 49, 50, 51, 52, 53, 54, 55, 56, 57, 58, 59, 60, 61, 62, 63, 64, 65, 66, 67, 68, 69, 70, 71, 72, 73, 74, 75, 76, 77, 78, 79, 80, 81, 82, 83, 84] (by decide +kernel) (by decide +kernel)
set_option maxRecDepth 20000 in
theorem gX2_sell_X1_sellUnits : GoodIn wsX2_sell (wsV RX2 125 RX1 yX1_sellUnits wsX1_sellUnits) := goodIn_app (goodIn_of _ (by decide +kernel)) ggX2_sell_X1_sellUnits
theorem dX2_sell_0 : decode cX2_sell 0 = .ok (.aload_n 0, 1) := by decide +kernel
theorem dX2_sell_1 : decode cX2_sell 1 = .ok (.iload_n 1, 1) := by decide +kernel
theorem dX2_sell_2 : decode cX2_sell 2 = .ok (.invokevirtual 68, 3) := by decide +kernel
theorem dX2_sell_5 : decode cX2_sell 5 = .ok (.astore_n 3, 1) := by decide +kernel
theorem dX2_sell_6 : decode cX2_sell 6 = .ok (.iload_n 2, 1) := by decide +kernel
theorem dX2_sell_7 : decode cX2_sell 7 = .ok (.iconst 1, 1) := by decide +kernel
theorem dX2_sell_8 : decode cX2_sell 8 = .ok (.ldc 116, 2) := by decide +kernel
theorem dX2_sell_10 : decode cX2_sell 10 = .ok (.invokestatic 45, 3) := by decide +kernel
theorem dX2_sell_13 : decode cX2_sell 13 = .ok (.iload_n 2, 1) := by decide +kernel
theorem dX2_sell_14 : decode cX2_sell 14 = .ok (.aload_n 3, 1) := by decide +kernel
theorem dX2_sell_15 : decode cX2_sell 15 = .ok (.getfield 76, 3) := by decide +kernel
theorem dX2_sell_18 : decode cX2_sell 18 = .ok (.if_icmp .gt 7, 3) := by decide +kernel
theorem dX2_sell_21 : decode cX2_sell 21 = .ok (.iconst 1, 1) := by decide +kernel
theorem dX2_sell_22 : decode cX2_sell 22 = .ok (.goto 4, 3) := by decide +kernel
theorem dX2_sell_25 : decode cX2_sell 25 = .ok (.iconst 0, 1) := by decide +kernel
theorem dX2_sell_26 : decode cX2_sell 26 = .ok (.invokestatic 61, 3) := by decide +kernel
theorem dX2_sell_29 : decode cX2_sell 29 = .ok (.aload_n 3, 1) := by decide +kernel
theorem dX2_sell_30 : decode cX2_sell 30 = .ok (.iload_n 2, 1) := by decide +kernel
theorem dX2_sell_31 : decode cX2_sell 31 = .ok (.aload_n 0, 1) := by decide +kernel
theorem dX2_sell_32 : decode cX2_sell 32 = .ok (.aload_n 3, 1) := by decide +kernel
theorem dX2_sell_33 : decode cX2_sell 33 = .ok (.getfield 79, 3) := by decide +kernel
theorem dX2_sell_36 : decode cX2_sell 36 = .ok (.invokevirtual 33, 3) := by decide +kernel
theorem dX2_sell_39 : decode cX2_sell 39 = .ok (.getfield 53, 3) := by decide +kernel
theorem dX2_sell_42 : decode cX2_sell 42 = .ok (.invokevirtual 125, 3) := by decide +kernel
theorem dX2_sell_45 : decode cX2_sell 45 = .ok (.l2i, 1) := by decide +kernel
theorem dX2_sell_46 : decode cX2_sell 46 = .ok (.ireturn, 1) := by decide +kernel
set_option maxRecDepth 20000 in
theorem ggX2_repay_X2_farmerAt : GoodIn wsX2_repay wsX2_farmerAt := goodIn_ca (goodIn_r _ [8, 9, 10, 11, 12, 52, 53, 54, 55, 56] (by decide +kernel) (by decide +kernel)) (goodIn_sub (fun _ h => List.mem_cons_of_mem _ (List.mem_append_left _ (List.mem_append_left _ (List.mem_append_right _ h)))) (by decide +kernel))
set_option maxRecDepth 20000 in
theorem gX2_repay_X2_farmerAt : GoodIn wsX2_repay (wsV RX2 68 RX2 yX2_farmerAt wsX2_farmerAt) := goodIn_app (goodIn_of _ (by decide +kernel)) ggX2_repay_X2_farmerAt
set_option maxRecDepth 20000 in
theorem ggX2_repay_X2_requireRange : GoodIn wsX2_repay wsX2_requireRange := goodIn_ca (goodIn_r _ [15, 16, 17] (by decide +kernel) (by decide +kernel)) (goodIn_sub (fun _ h => List.mem_cons_of_mem _ (List.mem_append_left _ (List.mem_append_right _ h))) (by decide +kernel))
set_option maxRecDepth 20000 in
theorem gX2_repay_X2_requireRange : GoodIn wsX2_repay (va_wsS RX2 45 yX2_requireRange wsX2_requireRange) := goodIn_app (goodIn_of _ (by decide +kernel)) ggX2_repay_X2_requireRange
set_option maxRecDepth 20000 in
theorem ggX2_repay_X2_requireState : GoodIn wsX2_repay wsX2_requireState := goodIn_ca (goodIn_r _ [20, 21, 22] (by decide +kernel) (by decide +kernel)) (goodIn_sub (fun _ h => List.mem_cons_of_mem _ (List.mem_append_right _ h)) (by decide +kernel))
set_option maxRecDepth 20000 in
theorem gX2_repay_X2_requireState : GoodIn wsX2_repay (va_wsS RX2 61 yX2_requireState wsX2_requireState) := goodIn_app (goodIn_of _ (by decide +kernel)) ggX2_repay_X2_requireState
set_option maxRecDepth 20000 in
theorem ggX2_repay_X1_repayFromPurse : GoodIn wsX2_repay wsX1_repayFromPurse := goodIn_r _ [27, 28, 29, 30, 31, 26, 32, 33, 34, 35, 36, 37, 38, 39, 40, 41, 42, 43, 44, 45, 46, 47, 48, 49, 50, 51] (by decide +kernel) (by decide +kernel)
set_option maxRecDepth 20000 in
theorem gX2_repay_X1_repayFromPurse : GoodIn wsX2_repay (wsV RX2 135 RX1 yX1_repayFromPurse wsX1_repayFromPurse) := goodIn_app (goodIn_of _ (by decide +kernel)) ggX2_repay_X1_repayFromPurse
theorem dX2_repay_0 : decode cX2_repay 0 = .ok (.aload_n 0, 1) := by decide +kernel
theorem dX2_repay_1 : decode cX2_repay 1 = .ok (.iload_n 1, 1) := by decide +kernel
theorem dX2_repay_2 : decode cX2_repay 2 = .ok (.invokevirtual 68, 3) := by decide +kernel
theorem dX2_repay_5 : decode cX2_repay 5 = .ok (.astore_n 3, 1) := by decide +kernel
theorem dX2_repay_6 : decode cX2_repay 6 = .ok (.iload_n 2, 1) := by decide +kernel
theorem dX2_repay_7 : decode cX2_repay 7 = .ok (.iconst 1, 1) := by decide +kernel
theorem dX2_repay_8 : decode cX2_repay 8 = .ok (.ldc 95, 2) := by decide +kernel
theorem dX2_repay_10 : decode cX2_repay 10 = .ok (.invokestatic 45, 3) := by decide +kernel
theorem dX2_repay_13 : decode cX2_repay 13 = .ok (.iload_n 2, 1) := by decide +kernel
theorem dX2_repay_14 : decode cX2_repay 14 = .ok (.i2l, 1) := by decide +kernel
theorem dX2_repay_15 : decode cX2_repay 15 = .ok (.aload_n 3, 1) := by decide +kernel
theorem dX2_repay_16 : decode cX2_repay 16 = .ok (.getfield 128, 3) := by decide +kernel
theorem dX2_repay_19 : decode cX2_repay 19 = .ok (.lcmp, 1) := by decide +kernel
theorem dX2_repay_20 : decode cX2_repay 20 = .ok (.ifCond .gt 17, 3) := by decide +kernel
theorem dX2_repay_23 : decode cX2_repay 23 = .ok (.iload_n 2, 1) := by decide +kernel
theorem dX2_repay_24 : decode cX2_repay 24 = .ok (.i2l, 1) := by decide +kernel
theorem dX2_repay_25 : decode cX2_repay 25 = .ok (.aload_n 3, 1) := by decide +kernel
theorem dX2_repay_26 : decode cX2_repay 26 = .ok (.getfield 132, 3) := by decide +kernel
theorem dX2_repay_29 : decode cX2_repay 29 = .ok (.lcmp, 1) := by decide +kernel
theorem dX2_repay_30 : decode cX2_repay 30 = .ok (.ifCond .gt 7, 3) := by decide +kernel
theorem dX2_repay_33 : decode cX2_repay 33 = .ok (.iconst 1, 1) := by decide +kernel
theorem dX2_repay_34 : decode cX2_repay 34 = .ok (.goto 4, 3) := by decide +kernel
theorem dX2_repay_37 : decode cX2_repay 37 = .ok (.iconst 0, 1) := by decide +kernel
theorem dX2_repay_38 : decode cX2_repay 38 = .ok (.invokestatic 61, 3) := by decide +kernel
theorem dX2_repay_41 : decode cX2_repay 41 = .ok (.aload_n 3, 1) := by decide +kernel
theorem dX2_repay_42 : decode cX2_repay 42 = .ok (.iload_n 2, 1) := by decide +kernel
theorem dX2_repay_43 : decode cX2_repay 43 = .ok (.i2l, 1) := by decide +kernel
theorem dX2_repay_44 : decode cX2_repay 44 = .ok (.invokevirtual 135, 3) := by decide +kernel
theorem dX2_repay_47 : decode cX2_repay 47 = .ok (.aload_n 3, 1) := by decide +kernel
theorem dX2_repay_48 : decode cX2_repay 48 = .ok (.getfield 128, 3) := by decide +kernel
theorem dX2_repay_51 : decode cX2_repay 51 = .ok (.l2i, 1) := by decide +kernel
theorem dX2_repay_52 : decode cX2_repay 52 = .ok (.ireturn, 1) := by decide +kernel
set_option maxRecDepth 20000 in
theorem ggX2_close_X2_requireState : GoodIn wsX2_close wsX2_requireState := goodIn_ca (goodIn_r _ [8, 9, 10] (by decide +kernel) (by decide +kernel)) (goodIn_sub (fun _ h => List.mem_cons_of_mem _ (List.mem_append_right _ h)) (by decide +kernel))
set_option maxRecDepth 20000 in
theorem gX2_close_X2_requireState : GoodIn wsX2_close (va_wsS RX2 61 yX2_requireState wsX2_requireState) := goodIn_app (goodIn_of _ (by decide +kernel)) ggX2_close_X2_requireState
set_option maxRecDepth 20000 in
theorem ggX2_close_X1_settleFromPurse : GoodIn wsX2_close wsX1_settleFromPurse := goodIn_r _ [15, 16, 17, 18, 19, 20, 21, 22, 23, 24, 25, 14, 26, 27, 28, 29, 30, 31, 32, 33, 34, 35, 36, 37, 81, 82, 83, 84, 85, 86, 87, 88, 89, 90, 91, 92, 93, 94, 95, 96, 97] (by decide +kernel) (by decide +kernel)
set_option maxRecDepth 20000 in
theorem gX2_close_X1_settleFromPurse : GoodIn wsX2_close (wsV RX2 138 RX1 yX1_settleFromPurse wsX1_settleFromPurse) := goodIn_app (goodIn_of _ (by decide +kernel)) ggX2_close_X1_settleFromPurse
set_option maxRecDepth 20000 in
theorem ggX2_close_X2_settleRest : GoodIn wsX2_close wsX2_settleRest := goodIn_r _ [41, 42, 43, 44, 45, 14, 46, 47, 27, 48, 49, 50, 51, 52, 53, 54, 55, 56, 17, 57, 28, 58, 59, 60, 61, 7, 62, 3, 4, 63, 64, 65, 66, 67, 18, 68, 16, 19, 20, 21, 22, 33, 34, 35, 36, 37, 81, 82, 83, 84, 85, 86, 87, 88, 89, 90, 91, 92, 93, 94, 95, 96, 97, 76, 77, 78, 79, 80] (by decide +kernel) (by decide +kernel)
set_option maxRecDepth 20000 in
theorem gX2_close_X2_settleRest : GoodIn wsX2_close (wsV RX2 141 RX2 yX2_settleRest wsX2_settleRest) := goodIn_app (goodIn_of _ (by decide +kernel)) ggX2_close_X2_settleRest
set_option maxRecDepth 20000 in
theorem ggX2_close_X1_forgetSeason : GoodIn wsX2_close wsX1_forgetSeason := goodIn_r _ [72, 52, 73, 74, 47, 75, 81, 82, 83, 84, 85, 86, 87, 88, 89, 90, 91, 92, 93, 94, 95, 96, 97] (by decide +kernel) (by decide +kernel)
set_option maxRecDepth 20000 in
theorem gX2_close_X1_forgetSeason : GoodIn wsX2_close (wsV RX2 145 RX1 yX1_forgetSeason wsX1_forgetSeason) := goodIn_app (goodIn_of _ (by decide +kernel)) ggX2_close_X1_forgetSeason
theorem dX2_close_0 : decode cX2_close 0 = .ok (.aload_n 0, 1) := by decide +kernel
theorem dX2_close_1 : decode cX2_close 1 = .ok (.getfield 28, 3) := by decide +kernel
theorem dX2_close_4 : decode cX2_close 4 = .ok (.iconst 4, 1) := by decide +kernel
theorem dX2_close_5 : decode cX2_close 5 = .ok (.if_icmp .ne 16, 3) := by decide +kernel
theorem dX2_close_8 : decode cX2_close 8 = .ok (.aload_n 0, 1) := by decide +kernel
theorem dX2_close_9 : decode cX2_close 9 = .ok (.getfield 25, 3) := by decide +kernel
theorem dX2_close_12 : decode cX2_close 12 = .ok (.bipush 20, 2) := by decide +kernel
theorem dX2_close_14 : decode cX2_close 14 = .ok (.if_icmp .ge 7, 3) := by decide +kernel
theorem dX2_close_17 : decode cX2_close 17 = .ok (.iconst 1, 1) := by decide +kernel
theorem dX2_close_18 : decode cX2_close 18 = .ok (.goto 4, 3) := by decide +kernel
theorem dX2_close_21 : decode cX2_close 21 = .ok (.iconst 0, 1) := by decide +kernel
theorem dX2_close_22 : decode cX2_close 22 = .ok (.invokestatic 61, 3) := by decide +kernel
theorem dX2_close_25 : decode cX2_close 25 = .ok (.iconst 0, 1) := by decide +kernel
theorem dX2_close_26 : decode cX2_close 26 = .ok (.istore_n 1, 1) := by decide +kernel
theorem dX2_close_27 : decode cX2_close 27 = .ok (.iload_n 1, 1) := by decide +kernel
theorem dX2_close_28 : decode cX2_close 28 = .ok (.aload_n 0, 1) := by decide +kernel
theorem dX2_close_29 : decode cX2_close 29 = .ok (.getfield 21, 3) := by decide +kernel
theorem dX2_close_32 : decode cX2_close 32 = .ok (.if_icmp .ge 18, 3) := by decide +kernel
theorem dX2_close_35 : decode cX2_close 35 = .ok (.aload_n 0, 1) := by decide +kernel
theorem dX2_close_36 : decode cX2_close 36 = .ok (.getfield 17, 3) := by decide +kernel
theorem dX2_close_39 : decode cX2_close 39 = .ok (.iload_n 1, 1) := by decide +kernel
theorem dX2_close_40 : decode cX2_close 40 = .ok (.aaload, 1) := by decide +kernel
theorem dX2_close_41 : decode cX2_close 41 = .ok (.invokevirtual 138, 3) := by decide +kernel
theorem dX2_close_44 : decode cX2_close 44 = .ok (.iinc 1 1, 3) := by decide +kernel
theorem dX2_close_47 : decode cX2_close 47 = .ok (.goto (-20), 3) := by decide +kernel
theorem dX2_close_50 : decode cX2_close 50 = .ok (.iconst 0, 1) := by decide +kernel
theorem dX2_close_51 : decode cX2_close 51 = .ok (.istore_n 1, 1) := by decide +kernel
theorem dX2_close_52 : decode cX2_close 52 = .ok (.iload_n 1, 1) := by decide +kernel
theorem dX2_close_53 : decode cX2_close 53 = .ok (.aload_n 0, 1) := by decide +kernel
theorem dX2_close_54 : decode cX2_close 54 = .ok (.getfield 21, 3) := by decide +kernel
theorem dX2_close_57 : decode cX2_close 57 = .ok (.if_icmp .ge 19, 3) := by decide +kernel
theorem dX2_close_60 : decode cX2_close 60 = .ok (.aload_n 0, 1) := by decide +kernel
theorem dX2_close_61 : decode cX2_close 61 = .ok (.aload_n 0, 1) := by decide +kernel
theorem dX2_close_62 : decode cX2_close 62 = .ok (.getfield 17, 3) := by decide +kernel
theorem dX2_close_65 : decode cX2_close 65 = .ok (.iload_n 1, 1) := by decide +kernel
theorem dX2_close_66 : decode cX2_close 66 = .ok (.aaload, 1) := by decide +kernel
theorem dX2_close_67 : decode cX2_close 67 = .ok (.invokevirtual 141, 3) := by decide +kernel
theorem dX2_close_70 : decode cX2_close 70 = .ok (.iinc 1 1, 3) := by decide +kernel
theorem dX2_close_73 : decode cX2_close 73 = .ok (.goto (-21), 3) := by decide +kernel
theorem dX2_close_76 : decode cX2_close 76 = .ok (.iconst 0, 1) := by decide +kernel
theorem dX2_close_77 : decode cX2_close 77 = .ok (.istore_n 1, 1) := by decide +kernel
theorem dX2_close_78 : decode cX2_close 78 = .ok (.iload_n 1, 1) := by decide +kernel
theorem dX2_close_79 : decode cX2_close 79 = .ok (.aload_n 0, 1) := by decide +kernel
theorem dX2_close_80 : decode cX2_close 80 = .ok (.getfield 21, 3) := by decide +kernel
theorem dX2_close_83 : decode cX2_close 83 = .ok (.if_icmp .ge 18, 3) := by decide +kernel
theorem dX2_close_86 : decode cX2_close 86 = .ok (.aload_n 0, 1) := by decide +kernel
theorem dX2_close_87 : decode cX2_close 87 = .ok (.getfield 17, 3) := by decide +kernel
theorem dX2_close_90 : decode cX2_close 90 = .ok (.iload_n 1, 1) := by decide +kernel
theorem dX2_close_91 : decode cX2_close 91 = .ok (.aaload, 1) := by decide +kernel
theorem dX2_close_92 : decode cX2_close 92 = .ok (.invokevirtual 145, 3) := by decide +kernel
theorem dX2_close_95 : decode cX2_close 95 = .ok (.iinc 1 1, 3) := by decide +kernel
theorem dX2_close_98 : decode cX2_close 98 = .ok (.goto (-20), 3) := by decide +kernel
theorem dX2_close_101 : decode cX2_close 101 = .ok (.aload_n 0, 1) := by decide +kernel
theorem dX2_close_102 : decode cX2_close 102 = .ok (.dup, 1) := by decide +kernel
theorem dX2_close_103 : decode cX2_close 103 = .ok (.getfield 25, 3) := by decide +kernel
theorem dX2_close_106 : decode cX2_close 106 = .ok (.iconst 1, 1) := by decide +kernel
theorem dX2_close_107 : decode cX2_close 107 = .ok (.iadd, 1) := by decide +kernel
theorem dX2_close_108 : decode cX2_close 108 = .ok (.putfield 25, 3) := by decide +kernel
theorem dX2_close_111 : decode cX2_close 111 = .ok (.aload_n 0, 1) := by decide +kernel
theorem dX2_close_112 : decode cX2_close 112 = .ok (.iconst 0, 1) := by decide +kernel
theorem dX2_close_113 : decode cX2_close 113 = .ok (.putfield 28, 3) := by decide +kernel
theorem dX2_close_116 : decode cX2_close 116 = .ok (.aload_n 0, 1) := by decide +kernel
theorem dX2_close_117 : decode cX2_close 117 = .ok (.getfield 25, 3) := by decide +kernel
theorem dX2_close_120 : decode cX2_close 120 = .ok (.ireturn, 1) := by decide +kernel
theorem dX2_season_0 : decode cX2_season 0 = .ok (.aload_n 0, 1) := by decide +kernel
theorem dX2_season_1 : decode cX2_season 1 = .ok (.getfield 25, 3) := by decide +kernel
theorem dX2_season_4 : decode cX2_season 4 = .ok (.ireturn, 1) := by decide +kernel
theorem dX2_stage_0 : decode cX2_stage 0 = .ok (.aload_n 0, 1) := by decide +kernel
theorem dX2_stage_1 : decode cX2_stage 1 = .ok (.getfield 28, 3) := by decide +kernel
theorem dX2_stage_4 : decode cX2_stage 4 = .ok (.ireturn, 1) := by decide +kernel
set_option maxRecDepth 20000 in
theorem ggX2_limit_X2_farmerAt : GoodIn wsX2_limit wsX2_farmerAt := goodIn_ca (goodIn_r _ [5, 6, 7, 8, 9, 34, 35, 36, 37, 38] (by decide +kernel) (by decide +kernel)) (goodIn_sub (fun _ h => List.mem_cons_of_mem _ (List.mem_append_right _ h)) (by decide +kernel))
set_option maxRecDepth 20000 in
theorem gX2_limit_X2_farmerAt : GoodIn wsX2_limit (wsV RX2 68 RX2 yX2_farmerAt wsX2_farmerAt) := goodIn_app (goodIn_of _ (by decide +kernel)) ggX2_limit_X2_farmerAt
set_option maxRecDepth 20000 in
theorem ggX2_limit_X2_limitOf : GoodIn wsX2_limit wsX2_limitOf := goodIn_ca (goodIn_r _ [13, 14, 15, 16, 17, 18, 19, 20, 21, 22, 23, 24, 25, 4, 26, 6, 7, 27, 28, 29, 30, 31, 32, 33, 39, 40, 41, 42, 43, 44, 45, 46, 47, 48, 49, 50, 51, 52, 53, 54, 55, 34, 35, 36, 37, 38, 56, 57, 58] (by decide +kernel) (by decide +kernel)) (goodIn_sub (fun _ h => List.mem_cons_of_mem _ (List.mem_append_right _ h)) (by decide +kernel))
set_option maxRecDepth 20000 in
theorem gX2_limit_X2_limitOf : GoodIn wsX2_limit (wsV RX2 96 RX2 yX2_limitOf wsX2_limitOf) := goodIn_app (goodIn_of _ (by decide +kernel)) ggX2_limit_X2_limitOf
theorem dX2_limit_0 : decode cX2_limit 0 = .ok (.aload_n 0, 1) := by decide +kernel
theorem dX2_limit_1 : decode cX2_limit 1 = .ok (.aload_n 0, 1) := by decide +kernel
theorem dX2_limit_2 : decode cX2_limit 2 = .ok (.iload_n 1, 1) := by decide +kernel
theorem dX2_limit_3 : decode cX2_limit 3 = .ok (.invokevirtual 68, 3) := by decide +kernel
theorem dX2_limit_6 : decode cX2_limit 6 = .ok (.invokevirtual 96, 3) := by decide +kernel
theorem dX2_limit_9 : decode cX2_limit 9 = .ok (.ireturn, 1) := by decide +kernel
set_option maxRecDepth 20000 in
theorem ggX2_debt_X2_farmerAt : GoodIn wsX2_debt wsX2_farmerAt := goodIn_ca (goodIn_r _ [6, 7, 8, 9, 10, 28, 29, 30, 31, 32] (by decide +kernel) (by decide +kernel)) (goodIn_sub (fun _ h => List.mem_cons_of_mem _ (List.mem_append_right _ h)) (by decide +kernel))
set_option maxRecDepth 20000 in
theorem gX2_debt_X2_farmerAt : GoodIn wsX2_debt (wsV RX2 68 RX2 yX2_farmerAt wsX2_farmerAt) := goodIn_app (goodIn_of _ (by decide +kernel)) ggX2_debt_X2_farmerAt
theorem dX2_debt_0 : decode cX2_debt 0 = .ok (.aload_n 0, 1) := by decide +kernel
theorem dX2_debt_1 : decode cX2_debt 1 = .ok (.iload_n 1, 1) := by decide +kernel
theorem dX2_debt_2 : decode cX2_debt 2 = .ok (.invokevirtual 68, 3) := by decide +kernel
theorem dX2_debt_5 : decode cX2_debt 5 = .ok (.getfield 128, 3) := by decide +kernel
theorem dX2_debt_8 : decode cX2_debt 8 = .ok (.l2i, 1) := by decide +kernel
theorem dX2_debt_9 : decode cX2_debt 9 = .ok (.ireturn, 1) := by decide +kernel
set_option maxRecDepth 20000 in
theorem ggX2_owes_X2_farmerAt : GoodIn wsX2_owes wsX2_farmerAt := goodIn_ca (goodIn_r _ [7, 8, 9, 10, 11, 36, 37, 38, 39, 40] (by decide +kernel) (by decide +kernel)) (goodIn_sub (fun _ h => List.mem_cons_of_mem _ (List.mem_append_right _ h)) (by decide +kernel))
set_option maxRecDepth 20000 in
theorem gX2_owes_X2_farmerAt : GoodIn wsX2_owes (wsV RX2 68 RX2 yX2_farmerAt wsX2_farmerAt) := goodIn_app (goodIn_of _ (by decide +kernel)) ggX2_owes_X2_farmerAt
set_option maxRecDepth 20000 in
theorem ggX2_owes_X1_instalmentSum : GoodIn wsX2_owes wsX1_instalmentSum := goodIn_r _ [16, 17, 18, 19, 20, 21, 22, 23, 24, 25, 26, 27, 28, 29, 30, 31, 32, 33, 34, 35] (by decide +kernel) (by decide +kernel)
set_option maxRecDepth 20000 in
theorem gX2_owes_X1_instalmentSum : GoodIn wsX2_owes (wsV RX2 151 RX1 yX1_instalmentSum wsX1_instalmentSum) := goodIn_app (goodIn_of _ (by decide +kernel)) ggX2_owes_X1_instalmentSum
theorem dX2_owes_0 : decode cX2_owes 0 = .ok (.aload_n 0, 1) := by decide +kernel
theorem dX2_owes_1 : decode cX2_owes 1 = .ok (.iload_n 1, 1) := by decide +kernel
theorem dX2_owes_2 : decode cX2_owes 2 = .ok (.invokevirtual 68, 3) := by decide +kernel
theorem dX2_owes_5 : decode cX2_owes 5 = .ok (.astore_n 2, 1) := by decide +kernel
theorem dX2_owes_6 : decode cX2_owes 6 = .ok (.aload_n 2, 1) := by decide +kernel
theorem dX2_owes_7 : decode cX2_owes 7 = .ok (.getfield 128, 3) := by decide +kernel
theorem dX2_owes_10 : decode cX2_owes 10 = .ok (.aload_n 2, 1) := by decide +kernel
theorem dX2_owes_11 : decode cX2_owes 11 = .ok (.getfield 148, 3) := by decide +kernel
theorem dX2_owes_14 : decode cX2_owes 14 = .ok (.ladd, 1) := by decide +kernel
theorem dX2_owes_15 : decode cX2_owes 15 = .ok (.aload_n 2, 1) := by decide +kernel
theorem dX2_owes_16 : decode cX2_owes 16 = .ok (.invokevirtual 151, 3) := by decide +kernel
theorem dX2_owes_19 : decode cX2_owes 19 = .ok (.ladd, 1) := by decide +kernel
theorem dX2_owes_20 : decode cX2_owes 20 = .ok (.l2i, 1) := by decide +kernel
theorem dX2_owes_21 : decode cX2_owes 21 = .ok (.ireturn, 1) := by decide +kernel
set_option maxRecDepth 20000 in
theorem ggX2_instalments_X2_farmerAt : GoodIn wsX2_instalments wsX2_farmerAt := goodIn_ca (goodIn_r _ [6, 7, 8, 9, 10, 28, 29, 30, 31, 32] (by decide +kernel) (by decide +kernel)) (goodIn_sub (fun _ h => List.mem_cons_of_mem _ (List.mem_append_right _ h)) (by decide +kernel))
set_option maxRecDepth 20000 in
theorem gX2_instalments_X2_farmerAt : GoodIn wsX2_instalments (wsV RX2 68 RX2 yX2_farmerAt wsX2_farmerAt) := goodIn_app (goodIn_of _ (by decide +kernel)) ggX2_instalments_X2_farmerAt
theorem dX2_instalments_0 : decode cX2_instalments 0 = .ok (.aload_n 0, 1) := by decide +kernel
theorem dX2_instalments_1 : decode cX2_instalments 1 = .ok (.iload_n 1, 1) := by decide +kernel
theorem dX2_instalments_2 : decode cX2_instalments 2 = .ok (.invokevirtual 68, 3) := by decide +kernel
theorem dX2_instalments_5 : decode cX2_instalments 5 = .ok (.getfield 155, 3) := by decide +kernel
theorem dX2_instalments_8 : decode cX2_instalments 8 = .ok (.ireturn, 1) := by decide +kernel
set_option maxRecDepth 20000 in
theorem ggX2_purse_X2_farmerAt : GoodIn wsX2_purse wsX2_farmerAt := goodIn_ca (goodIn_r _ [6, 7, 8, 9, 10, 28, 29, 30, 31, 32] (by decide +kernel) (by decide +kernel)) (goodIn_sub (fun _ h => List.mem_cons_of_mem _ (List.mem_append_right _ h)) (by decide +kernel))
set_option maxRecDepth 20000 in
theorem gX2_purse_X2_farmerAt : GoodIn wsX2_purse (wsV RX2 68 RX2 yX2_farmerAt wsX2_farmerAt) := goodIn_app (goodIn_of _ (by decide +kernel)) ggX2_purse_X2_farmerAt
theorem dX2_purse_0 : decode cX2_purse 0 = .ok (.aload_n 0, 1) := by decide +kernel
theorem dX2_purse_1 : decode cX2_purse 1 = .ok (.iload_n 1, 1) := by decide +kernel
theorem dX2_purse_2 : decode cX2_purse 2 = .ok (.invokevirtual 68, 3) := by decide +kernel
theorem dX2_purse_5 : decode cX2_purse 5 = .ok (.getfield 132, 3) := by decide +kernel
theorem dX2_purse_8 : decode cX2_purse 8 = .ok (.l2i, 1) := by decide +kernel
theorem dX2_purse_9 : decode cX2_purse 9 = .ok (.ireturn, 1) := by decide +kernel
set_option maxRecDepth 20000 in
theorem ggX2_grain_X2_farmerAt : GoodIn wsX2_grain wsX2_farmerAt := goodIn_ca (goodIn_r _ [7, 8, 9, 10, 11, 29, 30, 31, 32, 33] (by decide +kernel) (by decide +kernel)) (goodIn_sub (fun _ h => List.mem_cons_of_mem _ (List.mem_append_right _ h)) (by decide +kernel))
set_option maxRecDepth 20000 in
theorem gX2_grain_X2_farmerAt : GoodIn wsX2_grain (wsV RX2 68 RX2 yX2_farmerAt wsX2_farmerAt) := goodIn_app (goodIn_of _ (by decide +kernel)) ggX2_grain_X2_farmerAt
theorem dX2_grain_0 : decode cX2_grain 0 = .ok (.aload_n 0, 1) := by decide +kernel
theorem dX2_grain_1 : decode cX2_grain 1 = .ok (.iload_n 1, 1) := by decide +kernel
theorem dX2_grain_2 : decode cX2_grain 2 = .ok (.invokevirtual 68, 3) := by decide +kernel
theorem dX2_grain_5 : decode cX2_grain 5 = .ok (.astore_n 3, 1) := by decide +kernel
theorem dX2_grain_6 : decode cX2_grain 6 = .ok (.iload_n 2, 1) := by decide +kernel
theorem dX2_grain_7 : decode cX2_grain 7 = .ok (.ifCond .eq 10, 3) := by decide +kernel
theorem dX2_grain_10 : decode cX2_grain 10 = .ok (.aload_n 3, 1) := by decide +kernel
theorem dX2_grain_11 : decode cX2_grain 11 = .ok (.getfield 158, 3) := by decide +kernel
theorem dX2_grain_14 : decode cX2_grain 14 = .ok (.goto 7, 3) := by decide +kernel
theorem dX2_grain_17 : decode cX2_grain 17 = .ok (.aload_n 3, 1) := by decide +kernel
theorem dX2_grain_18 : decode cX2_grain 18 = .ok (.getfield 76, 3) := by decide +kernel
theorem dX2_grain_21 : decode cX2_grain 21 = .ok (.ireturn, 1) := by decide +kernel
set_option maxRecDepth 20000 in
theorem ggX2_called_X2_farmerAt : GoodIn wsX2_called wsX2_farmerAt := goodIn_ca (goodIn_r _ [6, 7, 8, 9, 10, 28, 29, 30, 31, 32] (by decide +kernel) (by decide +kernel)) (goodIn_sub (fun _ h => List.mem_cons_of_mem _ (List.mem_append_right _ h)) (by decide +kernel))
set_option maxRecDepth 20000 in
theorem gX2_called_X2_farmerAt : GoodIn wsX2_called (wsV RX2 68 RX2 yX2_farmerAt wsX2_farmerAt) := goodIn_app (goodIn_of _ (by decide +kernel)) ggX2_called_X2_farmerAt
theorem dX2_called_0 : decode cX2_called 0 = .ok (.aload_n 0, 1) := by decide +kernel
theorem dX2_called_1 : decode cX2_called 1 = .ok (.iload_n 1, 1) := by decide +kernel
theorem dX2_called_2 : decode cX2_called 2 = .ok (.invokevirtual 68, 3) := by decide +kernel
theorem dX2_called_5 : decode cX2_called 5 = .ok (.getfield 161, 3) := by decide +kernel
theorem dX2_called_8 : decode cX2_called 8 = .ok (.l2i, 1) := by decide +kernel
theorem dX2_called_9 : decode cX2_called 9 = .ok (.ireturn, 1) := by decide +kernel
set_option maxRecDepth 20000 in
theorem ggX2_repaid_X2_farmerAt : GoodIn wsX2_repaid wsX2_farmerAt := goodIn_ca (goodIn_r _ [6, 7, 8, 9, 10, 33, 34, 35, 36, 37] (by decide +kernel) (by decide +kernel)) (goodIn_sub (fun _ h => List.mem_cons_of_mem _ (List.mem_append_left _ (List.mem_append_right _ h))) (by decide +kernel))
set_option maxRecDepth 20000 in
theorem gX2_repaid_X2_farmerAt : GoodIn wsX2_repaid (wsV RX2 68 RX2 yX2_farmerAt wsX2_farmerAt) := goodIn_app (goodIn_of _ (by decide +kernel)) ggX2_repaid_X2_farmerAt
set_option maxRecDepth 20000 in
theorem ggX2_repaid_X2_requireRange : GoodIn wsX2_repaid wsX2_requireRange := goodIn_ca (goodIn_r _ [13, 14, 15] (by decide +kernel) (by decide +kernel)) (goodIn_sub (fun _ h => List.mem_cons_of_mem _ (List.mem_append_right _ h)) (by decide +kernel))
set_option maxRecDepth 20000 in
theorem gX2_repaid_X2_requireRange : GoodIn wsX2_repaid (va_wsS RX2 45 yX2_requireRange wsX2_requireRange) := goodIn_app (goodIn_of _ (by decide +kernel)) ggX2_repaid_X2_requireRange
theorem dX2_repaid_0 : decode cX2_repaid 0 = .ok (.aload_n 0, 1) := by decide +kernel
theorem dX2_repaid_1 : decode cX2_repaid 1 = .ok (.iload_n 1, 1) := by decide +kernel
theorem dX2_repaid_2 : decode cX2_repaid 2 = .ok (.invokevirtual 68, 3) := by decide +kernel
theorem dX2_repaid_5 : decode cX2_repaid 5 = .ok (.astore_n 3, 1) := by decide +kernel
theorem dX2_repaid_6 : decode cX2_repaid 6 = .ok (.iload_n 2, 1) := by decide +kernel
theorem dX2_repaid_7 : decode cX2_repaid 7 = .ok (.iconst 0, 1) := by decide +kernel
theorem dX2_repaid_8 : decode cX2_repaid 8 = .ok (.iconst 4, 1) := by decide +kernel
theorem dX2_repaid_9 : decode cX2_repaid 9 = .ok (.invokestatic 45, 3) := by decide +kernel
theorem dX2_repaid_12 : decode cX2_repaid 12 = .ok (.aload_n 3, 1) := by decide +kernel
theorem dX2_repaid_13 : decode cX2_repaid 13 = .ok (.getfield 164, 3) := by decide +kernel
theorem dX2_repaid_16 : decode cX2_repaid 16 = .ok (.iload_n 2, 1) := by decide +kernel
theorem dX2_repaid_17 : decode cX2_repaid 17 = .ok (.laload, 1) := by decide +kernel
theorem dX2_repaid_18 : decode cX2_repaid 18 = .ok (.l2i, 1) := by decide +kernel
theorem dX2_repaid_19 : decode cX2_repaid 19 = .ok (.ireturn, 1) := by decide +kernel
set_option maxRecDepth 20000 in
theorem ggX2_charged_X2_farmerAt : GoodIn wsX2_charged wsX2_farmerAt := goodIn_ca (goodIn_r _ [6, 7, 8, 9, 10, 28, 29, 30, 31, 32] (by decide +kernel) (by decide +kernel)) (goodIn_sub (fun _ h => List.mem_cons_of_mem _ (List.mem_append_right _ h)) (by decide +kernel))
set_option maxRecDepth 20000 in
theorem gX2_charged_X2_farmerAt : GoodIn wsX2_charged (wsV RX2 68 RX2 yX2_farmerAt wsX2_farmerAt) := goodIn_app (goodIn_of _ (by decide +kernel)) ggX2_charged_X2_farmerAt
theorem dX2_charged_0 : decode cX2_charged 0 = .ok (.aload_n 0, 1) := by decide +kernel
theorem dX2_charged_1 : decode cX2_charged 1 = .ok (.iload_n 1, 1) := by decide +kernel
theorem dX2_charged_2 : decode cX2_charged 2 = .ok (.invokevirtual 68, 3) := by decide +kernel
theorem dX2_charged_5 : decode cX2_charged 5 = .ok (.getfield 168, 3) := by decide +kernel
theorem dX2_charged_8 : decode cX2_charged 8 = .ok (.l2i, 1) := by decide +kernel
theorem dX2_charged_9 : decode cX2_charged 9 = .ok (.ireturn, 1) := by decide +kernel
theorem dX2_farmerAt_0 : decode cX2_farmerAt 0 = .ok (.iload_n 1, 1) := by decide +kernel
theorem dX2_farmerAt_1 : decode cX2_farmerAt 1 = .ok (.ifCond .lt 11, 3) := by decide +kernel
theorem dX2_farmerAt_4 : decode cX2_farmerAt 4 = .ok (.iload_n 1, 1) := by decide +kernel
theorem dX2_farmerAt_5 : decode cX2_farmerAt 5 = .ok (.aload_n 0, 1) := by decide +kernel
theorem dX2_farmerAt_6 : decode cX2_farmerAt 6 = .ok (.getfield 21, 3) := by decide +kernel
theorem dX2_farmerAt_9 : decode cX2_farmerAt 9 = .ok (.if_icmp .lt 13, 3) := by decide +kernel
theorem dX2_farmerAt_12 : decode cX2_farmerAt 12 = .ok (.new 37, 3) := by decide +kernel
theorem dX2_farmerAt_15 : decode cX2_farmerAt 15 = .ok (.dup, 1) := by decide +kernel
theorem dX2_farmerAt_16 : decode cX2_farmerAt 16 = .ok (.ldc 171, 2) := by decide +kernel
theorem dX2_farmerAt_18 : decode cX2_farmerAt 18 = .ok (.invokespecial 41, 3) := by decide +kernel
theorem dX2_farmerAt_21 : decode cX2_farmerAt 21 = .ok (.athrow, 1) := by decide +kernel
theorem dX2_farmerAt_22 : decode cX2_farmerAt 22 = .ok (.aload_n 0, 1) := by decide +kernel
theorem dX2_farmerAt_23 : decode cX2_farmerAt 23 = .ok (.getfield 17, 3) := by decide +kernel
theorem dX2_farmerAt_26 : decode cX2_farmerAt 26 = .ok (.iload_n 1, 1) := by decide +kernel
theorem dX2_farmerAt_27 : decode cX2_farmerAt 27 = .ok (.aaload, 1) := by decide +kernel
theorem dX2_farmerAt_28 : decode cX2_farmerAt 28 = .ok (.areturn, 1) := by decide +kernel
theorem dX2_cropAt_0 : decode cX2_cropAt 0 = .ok (.iload_n 1, 1) := by decide +kernel
theorem dX2_cropAt_1 : decode cX2_cropAt 1 = .ok (.ifCond .lt 8, 3) := by decide +kernel
theorem dX2_cropAt_4 : decode cX2_cropAt 4 = .ok (.iload_n 1, 1) := by decide +kernel
theorem dX2_cropAt_5 : decode cX2_cropAt 5 = .ok (.iconst 3, 1) := by decide +kernel
theorem dX2_cropAt_6 : decode cX2_cropAt 6 = .ok (.if_icmp .lt 13, 3) := by decide +kernel
theorem dX2_cropAt_9 : decode cX2_cropAt 9 = .ok (.new 37, 3) := by decide +kernel
theorem dX2_cropAt_12 : decode cX2_cropAt 12 = .ok (.dup, 1) := by decide +kernel
theorem dX2_cropAt_13 : decode cX2_cropAt 13 = .ok (.ldc 173, 2) := by decide +kernel
theorem dX2_cropAt_15 : decode cX2_cropAt 15 = .ok (.invokespecial 41, 3) := by decide +kernel
theorem dX2_cropAt_18 : decode cX2_cropAt 18 = .ok (.athrow, 1) := by decide +kernel
theorem dX2_cropAt_19 : decode cX2_cropAt 19 = .ok (.aload_n 0, 1) := by decide +kernel
theorem dX2_cropAt_20 : decode cX2_cropAt 20 = .ok (.getfield 11, 3) := by decide +kernel
theorem dX2_cropAt_23 : decode cX2_cropAt 23 = .ok (.iload_n 1, 1) := by decide +kernel
theorem dX2_cropAt_24 : decode cX2_cropAt 24 = .ok (.aaload, 1) := by decide +kernel
theorem dX2_cropAt_25 : decode cX2_cropAt 25 = .ok (.areturn, 1) := by decide +kernel
theorem dX2_requireRange_0 : decode cX2_requireRange 0 = .ok (.iload_n 0, 1) := by decide +kernel
theorem dX2_requireRange_1 : decode cX2_requireRange 1 = .ok (.iload_n 1, 1) := by decide +kernel
theorem dX2_requireRange_2 : decode cX2_requireRange 2 = .ok (.if_icmp .lt 8, 3) := by decide +kernel
theorem dX2_requireRange_5 : decode cX2_requireRange 5 = .ok (.iload_n 0, 1) := by decide +kernel
theorem dX2_requireRange_6 : decode cX2_requireRange 6 = .ok (.iload_n 2, 1) := by decide +kernel
theorem dX2_requireRange_7 : decode cX2_requireRange 7 = .ok (.if_icmp .le 13, 3) := by decide +kernel
theorem dX2_requireRange_10 : decode cX2_requireRange 10 = .ok (.new 175, 3) := by decide +kernel
theorem dX2_requireRange_13 : decode cX2_requireRange 13 = .ok (.dup, 1) := by decide +kernel
theorem dX2_requireRange_14 : decode cX2_requireRange 14 = .ok (.ldc 177, 2) := by decide +kernel
theorem dX2_requireRange_16 : decode cX2_requireRange 16 = .ok (.invokespecial 179, 3) := by decide +kernel
theorem dX2_requireRange_19 : decode cX2_requireRange 19 = .ok (.athrow, 1) := by decide +kernel
theorem dX2_requireRange_20 : decode cX2_requireRange 20 = .ok (.return_, 1) := by decide +kernel
theorem dX2_requireState_0 : decode cX2_requireState 0 = .ok (.iload_n 0, 1) := by decide +kernel
theorem dX2_requireState_1 : decode cX2_requireState 1 = .ok (.ifCond .ne 13, 3) := by decide +kernel
theorem dX2_requireState_4 : decode cX2_requireState 4 = .ok (.new 180, 3) := by decide +kernel
theorem dX2_requireState_7 : decode cX2_requireState 7 = .ok (.dup, 1) := by decide +kernel
theorem dX2_requireState_8 : decode cX2_requireState 8 = .ok (.ldc 182, 2) := by decide +kernel
theorem dX2_requireState_10 : decode cX2_requireState 10 = .ok (.invokespecial 184, 3) := by decide +kernel
theorem dX2_requireState_13 : decode cX2_requireState 13 = .ok (.athrow, 1) := by decide +kernel
theorem dX2_requireState_14 : decode cX2_requireState 14 = .ok (.return_, 1) := by decide +kernel
set_option maxRecDepth 20000 in
theorem ggX2_limitOf_X1_hasPlanted : GoodIn wsX2_limitOf wsX1_hasPlanted := goodIn_r _ [8, 9, 24, 25, 26, 27, 28, 29, 30, 31, 32, 33, 34, 35, 36, 37, 38, 39, 40] (by decide +kernel) (by decide +kernel)
set_option maxRecDepth 20000 in
theorem gX2_limitOf_X1_hasPlanted : GoodIn wsX2_limitOf (wsV RX2 72 RX1 yX1_hasPlanted wsX1_hasPlanted) := goodIn_app (goodIn_of _ (by decide +kernel)) ggX2_limitOf_X1_hasPlanted
set_option maxRecDepth 20000 in
theorem ggX2_limitOf_X2_cropAt : GoodIn wsX2_limitOf wsX2_cropAt := goodIn_ca (goodIn_r _ [14, 15, 16, 17, 41, 42, 43, 44, 45] (by decide +kernel) (by decide +kernel)) (goodIn_sub (fun _ h => List.mem_cons_of_mem _ (List.mem_append_right _ h)) (by decide +kernel))
set_option maxRecDepth 20000 in
theorem gX2_limitOf_X2_cropAt : GoodIn wsX2_limitOf (wsV RX2 33 RX2 yX2_cropAt wsX2_cropAt) := goodIn_app (goodIn_of _ (by decide +kernel)) ggX2_limitOf_X2_cropAt
set_option maxRecDepth 20000 in
theorem ggX2_limitOf_X0_needUpTo : GoodIn wsX2_limitOf wsX0_needUpTo := goodIn_r _ [22, 23, 46, 47, 48] (by decide +kernel) (by decide +kernel)
set_option maxRecDepth 20000 in
theorem gX2_limitOf_X0_needUpTo : GoodIn wsX2_limitOf (wsV RX2 88 RX0 yX0_needUpTo wsX0_needUpTo) := goodIn_app (goodIn_of _ (by decide +kernel)) ggX2_limitOf_X0_needUpTo
theorem dX2_limitOf_0 : decode cX2_limitOf 0 = .ok (.aload_n 1, 1) := by decide +kernel
theorem dX2_limitOf_1 : decode cX2_limitOf 1 = .ok (.invokevirtual 72, 3) := by decide +kernel
theorem dX2_limitOf_4 : decode cX2_limitOf 4 = .ok (.ifCond .ne 5, 3) := by decide +kernel
theorem dX2_limitOf_7 : decode cX2_limitOf 7 = .ok (.iconst 0, 1) := by decide +kernel
theorem dX2_limitOf_8 : decode cX2_limitOf 8 = .ok (.ireturn, 1) := by decide +kernel
theorem dX2_limitOf_9 : decode cX2_limitOf 9 = .ok (.aload_n 0, 1) := by decide +kernel
theorem dX2_limitOf_10 : decode cX2_limitOf 10 = .ok (.aload_n 1, 1) := by decide +kernel
theorem dX2_limitOf_11 : decode cX2_limitOf 11 = .ok (.getfield 82, 3) := by decide +kernel
theorem dX2_limitOf_14 : decode cX2_limitOf 14 = .ok (.invokevirtual 33, 3) := by decide +kernel
theorem dX2_limitOf_17 : decode cX2_limitOf 17 = .ok (.aload_n 0, 1) := by decide +kernel
theorem dX2_limitOf_18 : decode cX2_limitOf 18 = .ok (.getfield 28, 3) := by decide +kernel
theorem dX2_limitOf_21 : decode cX2_limitOf 21 = .ok (.invokevirtual 88, 3) := by decide +kernel
theorem dX2_limitOf_24 : decode cX2_limitOf 24 = .ok (.aload_n 1, 1) := by decide +kernel
theorem dX2_limitOf_25 : decode cX2_limitOf 25 = .ok (.getfield 85, 3) := by decide +kernel
theorem dX2_limitOf_28 : decode cX2_limitOf 28 = .ok (.imul, 1) := by decide +kernel
theorem dX2_limitOf_29 : decode cX2_limitOf 29 = .ok (.ireturn, 1) := by decide +kernel
set_option maxRecDepth 20000 in
theorem ggX2_harvestAll_X1_hasPlanted : GoodIn wsX2_harvestAll wsX1_hasPlanted := goodIn_r _ [8, 9, 50, 51, 52, 53, 54, 55, 56, 57, 58, 59, 60, 61, 62, 63, 64, 65, 66] (by decide +kernel) (by decide +kernel)
set_option maxRecDepth 20000 in
theorem gX2_harvestAll_X1_hasPlanted : GoodIn wsX2_harvestAll (wsV RX2 72 RX1 yX1_hasPlanted wsX1_hasPlanted) := goodIn_app (goodIn_of _ (by decide +kernel)) ggX2_harvestAll_X1_hasPlanted
set_option maxRecDepth 20000 in
theorem ggX2_harvestAll_X2_cropAt : GoodIn wsX2_harvestAll wsX2_cropAt := goodIn_ca (goodIn_r _ [14, 15, 16, 17, 45, 46, 47, 48, 49] (by decide +kernel) (by decide +kernel)) (goodIn_sub (fun _ h => List.mem_cons_of_mem _ (List.mem_append_right _ h)) (by decide +kernel))
set_option maxRecDepth 20000 in
theorem gX2_harvestAll_X2_cropAt : GoodIn wsX2_harvestAll (wsV RX2 33 RX2 yX2_cropAt wsX2_cropAt) := goodIn_app (goodIn_of _ (by decide +kernel)) ggX2_harvestAll_X2_cropAt
set_option maxRecDepth 20000 in
theorem ggX2_harvestAll_X1_harvest : GoodIn wsX2_harvestAll wsX1_harvest := goodIn_r _ [21, 22, 23, 24, 25, 9, 26, 27, 28, 29, 30, 31, 32, 7, 33, 34, 35, 36, 37, 38, 39, 40, 41, 42, 43, 44, 50, 51, 52, 53, 54, 55, 56, 57, 58, 59, 60, 61, 62, 63, 64, 65, 66, 67, 68, 69] (by decide +kernel) (by decide +kernel)
set_option maxRecDepth 20000 in
theorem gX2_harvestAll_X1_harvest : GoodIn wsX2_harvestAll (wsV RX2 185 RX1 yX1_harvest wsX1_harvest) := goodIn_app (goodIn_of _ (by decide +kernel)) ggX2_harvestAll_X1_harvest
theorem dX2_harvestAll_0 : decode cX2_harvestAll 0 = .ok (.iconst 0, 1) := by decide +kernel
theorem dX2_harvestAll_1 : decode cX2_harvestAll 1 = .ok (.istore_n 1, 1) := by decide +kernel
theorem dX2_harvestAll_2 : decode cX2_harvestAll 2 = .ok (.iload_n 1, 1) := by decide +kernel
theorem dX2_harvestAll_3 : decode cX2_harvestAll 3 = .ok (.aload_n 0, 1) := by decide +kernel
theorem dX2_harvestAll_4 : decode cX2_harvestAll 4 = .ok (.getfield 21, 3) := by decide +kernel
theorem dX2_harvestAll_7 : decode cX2_harvestAll 7 = .ok (.if_icmp .ge 43, 3) := by decide +kernel
theorem dX2_harvestAll_10 : decode cX2_harvestAll 10 = .ok (.aload_n 0, 1) := by decide +kernel
theorem dX2_harvestAll_11 : decode cX2_harvestAll 11 = .ok (.getfield 17, 3) := by decide +kernel
theorem dX2_harvestAll_14 : decode cX2_harvestAll 14 = .ok (.iload_n 1, 1) := by decide +kernel
theorem dX2_harvestAll_15 : decode cX2_harvestAll 15 = .ok (.aaload, 1) := by decide +kernel
theorem dX2_harvestAll_16 : decode cX2_harvestAll 16 = .ok (.invokevirtual 72, 3) := by decide +kernel
theorem dX2_harvestAll_19 : decode cX2_harvestAll 19 = .ok (.ifCond .eq 25, 3) := by decide +kernel
theorem dX2_harvestAll_22 : decode cX2_harvestAll 22 = .ok (.aload_n 0, 1) := by decide +kernel
theorem dX2_harvestAll_23 : decode cX2_harvestAll 23 = .ok (.getfield 17, 3) := by decide +kernel
theorem dX2_harvestAll_26 : decode cX2_harvestAll 26 = .ok (.iload_n 1, 1) := by decide +kernel
theorem dX2_harvestAll_27 : decode cX2_harvestAll 27 = .ok (.aaload, 1) := by decide +kernel
theorem dX2_harvestAll_28 : decode cX2_harvestAll 28 = .ok (.aload_n 0, 1) := by decide +kernel
theorem dX2_harvestAll_29 : decode cX2_harvestAll 29 = .ok (.aload_n 0, 1) := by decide +kernel
theorem dX2_harvestAll_30 : decode cX2_harvestAll 30 = .ok (.getfield 17, 3) := by decide +kernel
theorem dX2_harvestAll_33 : decode cX2_harvestAll 33 = .ok (.iload_n 1, 1) := by decide +kernel
theorem dX2_harvestAll_34 : decode cX2_harvestAll 34 = .ok (.aaload, 1) := by decide +kernel
theorem dX2_harvestAll_35 : decode cX2_harvestAll 35 = .ok (.getfield 82, 3) := by decide +kernel
theorem dX2_harvestAll_38 : decode cX2_harvestAll 38 = .ok (.invokevirtual 33, 3) := by decide +kernel
theorem dX2_harvestAll_41 : decode cX2_harvestAll 41 = .ok (.invokevirtual 185, 3) := by decide +kernel
theorem dX2_harvestAll_44 : decode cX2_harvestAll 44 = .ok (.iinc 1 1, 3) := by decide +kernel
theorem dX2_harvestAll_47 : decode cX2_harvestAll 47 = .ok (.goto (-45), 3) := by decide +kernel
theorem dX2_harvestAll_50 : decode cX2_harvestAll 50 = .ok (.return_, 1) := by decide +kernel
set_option maxRecDepth 20000 in
theorem ggX2_settleRest_X1_mayRoll : GoodIn wsX2_settleRest wsX1_mayRoll := goodIn_r _ [6, 7, 8, 9, 10, 11, 5, 12, 13, 46, 47, 48, 49, 50, 51, 52, 53, 54, 55, 56, 57, 58, 59, 60, 61, 62] (by decide +kernel) (by decide +kernel)
set_option maxRecDepth 20000 in
theorem gX2_settleRest_X1_mayRoll : GoodIn wsX2_settleRest (wsV RX2 189 RX1 yX1_mayRoll wsX1_mayRoll) := goodIn_app (goodIn_of _ (by decide +kernel)) ggX2_settleRest_X1_mayRoll
set_option maxRecDepth 20000 in
theorem ggX2_settleRest_X1_rollDebt : GoodIn wsX2_settleRest wsX1_rollDebt := goodIn_r _ [17, 18, 19, 20, 21, 8, 46, 47, 48, 49, 50, 51, 52, 53, 54, 55, 56, 57, 58, 59, 60, 61, 62] (by decide +kernel) (by decide +kernel)
set_option maxRecDepth 20000 in
theorem gX2_settleRest_X1_rollDebt : GoodIn wsX2_settleRest (wsV RX2 192 RX1 yX1_rollDebt wsX1_rollDebt) := goodIn_app (goodIn_of _ (by decide +kernel)) ggX2_settleRest_X1_rollDebt
set_option maxRecDepth 20000 in
theorem ggX2_settleRest_X2_collectFromGroup : GoodIn wsX2_settleRest wsX2_collectFromGroup := goodIn_r _ [26, 27, 28, 29, 30, 31, 32, 5, 33, 18, 34, 35, 36, 37, 38, 39, 40, 41, 42, 43, 44, 45, 63, 64, 65, 66, 67, 46, 47, 48, 49, 50, 51, 52, 53, 54, 55, 56, 57, 58, 59, 60, 61, 62] (by decide +kernel) (by decide +kernel)
set_option maxRecDepth 20000 in
theorem gX2_settleRest_X2_collectFromGroup : GoodIn wsX2_settleRest (wsV RX2 195 RX2 yX2_collectFromGroup wsX2_collectFromGroup) := goodIn_app (goodIn_of _ (by decide +kernel)) ggX2_settleRest_X2_collectFromGroup
theorem dX2_settleRest_0 : decode cX2_settleRest 0 = .ok (.aload_n 1, 1) := by decide +kernel
theorem dX2_settleRest_1 : decode cX2_settleRest 1 = .ok (.getfield 128, 3) := by decide +kernel
theorem dX2_settleRest_4 : decode cX2_settleRest 4 = .ok (.lconst 0, 1) := by decide +kernel
theorem dX2_settleRest_5 : decode cX2_settleRest 5 = .ok (.lcmp, 1) := by decide +kernel
theorem dX2_settleRest_6 : decode cX2_settleRest 6 = .ok (.ifCond .ne 4, 3) := by decide +kernel
theorem dX2_settleRest_9 : decode cX2_settleRest 9 = .ok (.return_, 1) := by decide +kernel
theorem dX2_settleRest_10 : decode cX2_settleRest 10 = .ok (.aload_n 1, 1) := by decide +kernel
theorem dX2_settleRest_11 : decode cX2_settleRest 11 = .ok (.invokevirtual 189, 3) := by decide +kernel
theorem dX2_settleRest_14 : decode cX2_settleRest 14 = .ok (.ifCond .eq 10, 3) := by decide +kernel
theorem dX2_settleRest_17 : decode cX2_settleRest 17 = .ok (.aload_n 1, 1) := by decide +kernel
theorem dX2_settleRest_18 : decode cX2_settleRest 18 = .ok (.invokevirtual 192, 3) := by decide +kernel
theorem dX2_settleRest_21 : decode cX2_settleRest 21 = .ok (.goto 8, 3) := by decide +kernel
theorem dX2_settleRest_24 : decode cX2_settleRest 24 = .ok (.aload_n 0, 1) := by decide +kernel
theorem dX2_settleRest_25 : decode cX2_settleRest 25 = .ok (.aload_n 1, 1) := by decide +kernel
theorem dX2_settleRest_26 : decode cX2_settleRest 26 = .ok (.invokevirtual 195, 3) := by decide +kernel
theorem dX2_settleRest_29 : decode cX2_settleRest 29 = .ok (.return_, 1) := by decide +kernel
set_option maxRecDepth 20000 in
theorem ggX2_collectFromGroup_X1_payFor : GoodIn wsX2_collectFromGroup wsX1_payFor := goodIn_r _ [8, 9, 10, 11, 12, 13, 14, 15, 16, 17, 18, 19, 7, 20, 21, 27, 28, 29, 30, 31, 32, 33, 34, 35, 36, 37, 38, 39, 40, 41, 42, 43] (by decide +kernel) (by decide +kernel)
set_option maxRecDepth 20000 in
theorem gX2_collectFromGroup_X1_payFor : GoodIn wsX2_collectFromGroup (wsV RX2 198 RX1 yX1_payFor wsX1_payFor) := goodIn_app (goodIn_of _ (by decide +kernel)) ggX2_collectFromGroup_X1_payFor
theorem dX2_collectFromGroup_0 : decode cX2_collectFromGroup 0 = .ok (.iconst 0, 1) := by decide +kernel
theorem dX2_collectFromGroup_1 : decode cX2_collectFromGroup 1 = .ok (.istore_n 2, 1) := by decide +kernel
theorem dX2_collectFromGroup_2 : decode cX2_collectFromGroup 2 = .ok (.iload_n 2, 1) := by decide +kernel
theorem dX2_collectFromGroup_3 : decode cX2_collectFromGroup 3 = .ok (.aload_n 0, 1) := by decide +kernel
theorem dX2_collectFromGroup_4 : decode cX2_collectFromGroup 4 = .ok (.getfield 21, 3) := by decide +kernel
theorem dX2_collectFromGroup_7 : decode cX2_collectFromGroup 7 = .ok (.if_icmp .ge 45, 3) := by decide +kernel
theorem dX2_collectFromGroup_10 : decode cX2_collectFromGroup 10 = .ok (.aload_n 0, 1) := by decide +kernel
theorem dX2_collectFromGroup_11 : decode cX2_collectFromGroup 11 = .ok (.getfield 17, 3) := by decide +kernel
theorem dX2_collectFromGroup_14 : decode cX2_collectFromGroup 14 = .ok (.iload_n 2, 1) := by decide +kernel
theorem dX2_collectFromGroup_15 : decode cX2_collectFromGroup 15 = .ok (.aaload, 1) := by decide +kernel
theorem dX2_collectFromGroup_16 : decode cX2_collectFromGroup 16 = .ok (.aload_n 1, 1) := by decide +kernel
theorem dX2_collectFromGroup_17 : decode cX2_collectFromGroup 17 = .ok (.if_acmp .eq 29, 3) := by decide +kernel
theorem dX2_collectFromGroup_20 : decode cX2_collectFromGroup 20 = .ok (.aload_n 0, 1) := by decide +kernel
theorem dX2_collectFromGroup_21 : decode cX2_collectFromGroup 21 = .ok (.getfield 17, 3) := by decide +kernel
theorem dX2_collectFromGroup_24 : decode cX2_collectFromGroup 24 = .ok (.iload_n 2, 1) := by decide +kernel
theorem dX2_collectFromGroup_25 : decode cX2_collectFromGroup 25 = .ok (.aaload, 1) := by decide +kernel
theorem dX2_collectFromGroup_26 : decode cX2_collectFromGroup 26 = .ok (.getfield 65, 3) := by decide +kernel
theorem dX2_collectFromGroup_29 : decode cX2_collectFromGroup 29 = .ok (.aload_n 1, 1) := by decide +kernel
theorem dX2_collectFromGroup_30 : decode cX2_collectFromGroup 30 = .ok (.getfield 65, 3) := by decide +kernel
theorem dX2_collectFromGroup_33 : decode cX2_collectFromGroup 33 = .ok (.if_icmp .ne 13, 3) := by decide +kernel
theorem dX2_collectFromGroup_36 : decode cX2_collectFromGroup 36 = .ok (.aload_n 0, 1) := by decide +kernel
theorem dX2_collectFromGroup_37 : decode cX2_collectFromGroup 37 = .ok (.getfield 17, 3) := by decide +kernel
theorem dX2_collectFromGroup_40 : decode cX2_collectFromGroup 40 = .ok (.iload_n 2, 1) := by decide +kernel
theorem dX2_collectFromGroup_41 : decode cX2_collectFromGroup 41 = .ok (.aaload, 1) := by decide +kernel
theorem dX2_collectFromGroup_42 : decode cX2_collectFromGroup 42 = .ok (.aload_n 1, 1) := by decide +kernel
theorem dX2_collectFromGroup_43 : decode cX2_collectFromGroup 43 = .ok (.invokevirtual 198, 3) := by decide +kernel
theorem dX2_collectFromGroup_46 : decode cX2_collectFromGroup 46 = .ok (.iinc 2 1, 3) := by decide +kernel
theorem dX2_collectFromGroup_49 : decode cX2_collectFromGroup 49 = .ok (.goto (-47), 3) := by decide +kernel
theorem dX2_collectFromGroup_52 : decode cX2_collectFromGroup 52 = .ok (.return_, 1) := by decide +kernel
