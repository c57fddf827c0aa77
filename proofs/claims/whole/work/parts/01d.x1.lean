theorem dJ9_min_7cf53_0 : decode cJ9_min_7cf53 0 = .ok (.iload_n 0, 1) := by decide +kernel
theorem dJ9_min_7cf53_1 : decode cJ9_min_7cf53 1 = .ok (.iload_n 1, 1) := by decide +kernel
theorem dJ9_min_7cf53_2 : decode cJ9_min_7cf53 2 = .ok (.if_icmp .gt 7, 3) := by decide +kernel
theorem dJ9_min_7cf53_5 : decode cJ9_min_7cf53 5 = .ok (.iload_n 0, 1) := by decide +kernel
theorem dJ9_min_7cf53_6 : decode cJ9_min_7cf53 6 = .ok (.goto 4, 3) := by decide +kernel
theorem dJ9_min_7cf53_9 : decode cJ9_min_7cf53 9 = .ok (.iload_n 1, 1) := by decide +kernel
theorem dJ9_min_7cf53_10 : decode cJ9_min_7cf53 10 = .ok (.ireturn, 1) := by decide +kernel
theorem dJ9_min_f86c9_0 : decode cJ9_min_f86c9 0 = .ok (.lload_n 0, 1) := by decide +kernel
theorem dJ9_min_f86c9_1 : decode cJ9_min_f86c9 1 = .ok (.lload_n 2, 1) := by decide +kernel
theorem dJ9_min_f86c9_2 : decode cJ9_min_f86c9 2 = .ok (.lcmp, 1) := by decide +kernel
theorem dJ9_min_f86c9_3 : decode cJ9_min_f86c9 3 = .ok (.ifCond .gt 7, 3) := by decide +kernel
theorem dJ9_min_f86c9_6 : decode cJ9_min_f86c9 6 = .ok (.lload_n 0, 1) := by decide +kernel
theorem dJ9_min_f86c9_7 : decode cJ9_min_f86c9 7 = .ok (.goto 4, 3) := by decide +kernel
theorem dJ9_min_f86c9_10 : decode cJ9_min_f86c9 10 = .ok (.lload_n 2, 1) := by decide +kernel
theorem dJ9_min_f86c9_11 : decode cJ9_min_f86c9 11 = .ok (.lreturn, 1) := by decide +kernel
theorem dX0_init_0 : decode cX0_init 0 = .ok (.aload_n 0, 1) := by decide +kernel
theorem dX0_init_1 : decode cX0_init 1 = .ok (.invokespecial 3, 3) := by decide +kernel
theorem dX0_init_4 : decode cX0_init 4 = .ok (.aload_n 0, 1) := by decide +kernel
theorem dX0_init_5 : decode cX0_init 5 = .ok (.iconst 4, 1) := by decide +kernel
theorem dX0_init_6 : decode cX0_init 6 = .ok (.newarray .int, 2) := by decide +kernel
theorem dX0_init_8 : decode cX0_init 8 = .ok (.putfield 9, 3) := by decide +kernel
theorem dX0_init_11 : decode cX0_init 11 = .ok (.aload_n 0, 1) := by decide +kernel
theorem dX0_init_12 : decode cX0_init 12 = .ok (.bipush 100, 2) := by decide +kernel
theorem dX0_init_14 : decode cX0_init 14 = .ok (.putfield 15, 3) := by decide +kernel
theorem dX0_init_17 : decode cX0_init 17 = .ok (.aload_n 0, 1) := by decide +kernel
theorem dX0_init_18 : decode cX0_init 18 = .ok (.bipush 50, 2) := by decide +kernel
theorem dX0_init_20 : decode cX0_init 20 = .ok (.putfield 19, 3) := by decide +kernel
theorem dX0_init_23 : decode cX0_init 23 = .ok (.iconst 0, 1) := by decide +kernel
theorem dX0_init_24 : decode cX0_init 24 = .ok (.istore_n 1, 1) := by decide +kernel
theorem dX0_init_25 : decode cX0_init 25 = .ok (.iload_n 1, 1) := by decide +kernel
theorem dX0_init_26 : decode cX0_init 26 = .ok (.iconst 4, 1) := by decide +kernel
theorem dX0_init_27 : decode cX0_init 27 = .ok (.if_icmp .ge 18, 3) := by decide +kernel
theorem dX0_init_30 : decode cX0_init 30 = .ok (.aload_n 0, 1) := by decide +kernel
theorem dX0_init_31 : decode cX0_init 31 = .ok (.getfield 9, 3) := by decide +kernel
theorem dX0_init_34 : decode cX0_init 34 = .ok (.iload_n 1, 1) := by decide +kernel
theorem dX0_init_35 : decode cX0_init 35 = .ok (.sipush 1000, 3) := by decide +kernel
theorem dX0_init_38 : decode cX0_init 38 = .ok (.iastore, 1) := by decide +kernel
theorem dX0_init_39 : decode cX0_init 39 = .ok (.iinc 1 1, 3) := by decide +kernel
theorem dX0_init_42 : decode cX0_init 42 = .ok (.goto (-17), 3) := by decide +kernel
theorem dX0_init_45 : decode cX0_init 45 = .ok (.return_, 1) := by decide +kernel
theorem dX0_needUpTo_0 : decode cX0_needUpTo 0 = .ok (.iconst 0, 1) := by decide +kernel
theorem dX0_needUpTo_1 : decode cX0_needUpTo 1 = .ok (.istore_n 2, 1) := by decide +kernel
theorem dX0_needUpTo_2 : decode cX0_needUpTo 2 = .ok (.iconst 0, 1) := by decide +kernel
theorem dX0_needUpTo_3 : decode cX0_needUpTo 3 = .ok (.istore_n 3, 1) := by decide +kernel
theorem dX0_needUpTo_4 : decode cX0_needUpTo 4 = .ok (.iload_n 3, 1) := by decide +kernel
theorem dX0_needUpTo_5 : decode cX0_needUpTo 5 = .ok (.iconst 4, 1) := by decide +kernel
theorem dX0_needUpTo_6 : decode cX0_needUpTo 6 = .ok (.if_icmp .ge 23, 3) := by decide +kernel
theorem dX0_needUpTo_9 : decode cX0_needUpTo 9 = .ok (.iload_n 3, 1) := by decide +kernel
theorem dX0_needUpTo_10 : decode cX0_needUpTo 10 = .ok (.iload_n 1, 1) := by decide +kernel
theorem dX0_needUpTo_11 : decode cX0_needUpTo 11 = .ok (.if_icmp .gt 18, 3) := by decide +kernel
theorem dX0_needUpTo_14 : decode cX0_needUpTo 14 = .ok (.iload_n 2, 1) := by decide +kernel
theorem dX0_needUpTo_15 : decode cX0_needUpTo 15 = .ok (.aload_n 0, 1) := by decide +kernel
theorem dX0_needUpTo_16 : decode cX0_needUpTo 16 = .ok (.getfield 9, 3) := by decide +kernel
theorem dX0_needUpTo_19 : decode cX0_needUpTo 19 = .ok (.iload_n 3, 1) := by decide +kernel
theorem dX0_needUpTo_20 : decode cX0_needUpTo 20 = .ok (.iaload, 1) := by decide +kernel
theorem dX0_needUpTo_21 : decode cX0_needUpTo 21 = .ok (.iadd, 1) := by decide +kernel
theorem dX0_needUpTo_22 : decode cX0_needUpTo 22 = .ok (.istore_n 2, 1) := by decide +kernel
theorem dX0_needUpTo_23 : decode cX0_needUpTo 23 = .ok (.iinc 3 1, 3) := by decide +kernel
theorem dX0_needUpTo_26 : decode cX0_needUpTo 26 = .ok (.goto (-22), 3) := by decide +kernel
theorem dX0_needUpTo_29 : decode cX0_needUpTo 29 = .ok (.iload_n 2, 1) := by decide +kernel
theorem dX0_needUpTo_30 : decode cX0_needUpTo 30 = .ok (.ireturn, 1) := by decide +kernel
theorem dX1_init_0 : decode cX1_init 0 = .ok (.aload_n 0, 1) := by decide +kernel
theorem dX1_init_1 : decode cX1_init 1 = .ok (.invokespecial 3, 3) := by decide +kernel
theorem dX1_init_4 : decode cX1_init 4 = .ok (.aload_n 0, 1) := by decide +kernel
theorem dX1_init_5 : decode cX1_init 5 = .ok (.iconst 0, 1) := by decide +kernel
theorem dX1_init_6 : decode cX1_init 6 = .ok (.putfield 9, 3) := by decide +kernel
theorem dX1_init_9 : decode cX1_init 9 = .ok (.aload_n 0, 1) := by decide +kernel
theorem dX1_init_10 : decode cX1_init 10 = .ok (.lconst 0, 1) := by decide +kernel
theorem dX1_init_11 : decode cX1_init 11 = .ok (.putfield 15, 3) := by decide +kernel
theorem dX1_init_14 : decode cX1_init 14 = .ok (.aload_n 0, 1) := by decide +kernel
theorem dX1_init_15 : decode cX1_init 15 = .ok (.lconst 0, 1) := by decide +kernel
theorem dX1_init_16 : decode cX1_init 16 = .ok (.putfield 19, 3) := by decide +kernel
theorem dX1_init_19 : decode cX1_init 19 = .ok (.aload_n 0, 1) := by decide +kernel
theorem dX1_init_20 : decode cX1_init 20 = .ok (.lconst 0, 1) := by decide +kernel
theorem dX1_init_21 : decode cX1_init 21 = .ok (.putfield 22, 3) := by decide +kernel
theorem dX1_init_24 : decode cX1_init 24 = .ok (.aload_n 0, 1) := by decide +kernel
theorem dX1_init_25 : decode cX1_init 25 = .ok (.lconst 0, 1) := by decide +kernel
theorem dX1_init_26 : decode cX1_init 26 = .ok (.putfield 25, 3) := by decide +kernel
theorem dX1_init_29 : decode cX1_init 29 = .ok (.aload_n 0, 1) := by decide +kernel
theorem dX1_init_30 : decode cX1_init 30 = .ok (.lconst 0, 1) := by decide +kernel
theorem dX1_init_31 : decode cX1_init 31 = .ok (.putfield 28, 3) := by decide +kernel
theorem dX1_init_34 : decode cX1_init 34 = .ok (.aload_n 0, 1) := by decide +kernel
theorem dX1_init_35 : decode cX1_init 35 = .ok (.iconst 5, 1) := by decide +kernel
theorem dX1_init_36 : decode cX1_init 36 = .ok (.newarray .long, 2) := by decide +kernel
theorem dX1_init_38 : decode cX1_init 38 = .ok (.putfield 31, 3) := by decide +kernel
theorem dX1_init_41 : decode cX1_init 41 = .ok (.aload_n 0, 1) := by decide +kernel
theorem dX1_init_42 : decode cX1_init 42 = .ok (.iconst 3, 1) := by decide +kernel
theorem dX1_init_43 : decode cX1_init 43 = .ok (.newarray .long, 2) := by decide +kernel
theorem dX1_init_45 : decode cX1_init 45 = .ok (.putfield 35, 3) := by decide +kernel
theorem dX1_init_48 : decode cX1_init 48 = .ok (.aload_n 0, 1) := by decide +kernel
theorem dX1_init_49 : decode cX1_init 49 = .ok (.iconst 0, 1) := by decide +kernel
theorem dX1_init_50 : decode cX1_init 50 = .ok (.putfield 38, 3) := by decide +kernel
theorem dX1_init_53 : decode cX1_init 53 = .ok (.aload_n 0, 1) := by decide +kernel
theorem dX1_init_54 : decode cX1_init 54 = .ok (.iconst 0, 1) := by decide +kernel
theorem dX1_init_55 : decode cX1_init 55 = .ok (.putfield 41, 3) := by decide +kernel
theorem dX1_init_58 : decode cX1_init 58 = .ok (.aload_n 0, 1) := by decide +kernel
theorem dX1_init_59 : decode cX1_init 59 = .ok (.iconst 0, 1) := by decide +kernel
theorem dX1_init_60 : decode cX1_init 60 = .ok (.putfield 44, 3) := by decide +kernel
theorem dX1_init_63 : decode cX1_init 63 = .ok (.aload_n 0, 1) := by decide +kernel
theorem dX1_init_64 : decode cX1_init 64 = .ok (.iconst 0, 1) := by decide +kernel
theorem dX1_init_65 : decode cX1_init 65 = .ok (.putfield 47, 3) := by decide +kernel
theorem dX1_init_68 : decode cX1_init 68 = .ok (.aload_n 0, 1) := by decide +kernel
theorem dX1_init_69 : decode cX1_init 69 = .ok (.iconst (-1), 1) := by decide +kernel
theorem dX1_init_70 : decode cX1_init 70 = .ok (.putfield 50, 3) := by decide +kernel
theorem dX1_init_73 : decode cX1_init 73 = .ok (.aload_n 0, 1) := by decide +kernel
theorem dX1_init_74 : decode cX1_init 74 = .ok (.iconst 0, 1) := by decide +kernel
theorem dX1_init_75 : decode cX1_init 75 = .ok (.putfield 53, 3) := by decide +kernel
theorem dX1_init_78 : decode cX1_init 78 = .ok (.aload_n 0, 1) := by decide +kernel
theorem dX1_init_79 : decode cX1_init 79 = .ok (.iconst 0, 1) := by decide +kernel
theorem dX1_init_80 : decode cX1_init 80 = .ok (.putfield 56, 3) := by decide +kernel
theorem dX1_init_83 : decode cX1_init 83 = .ok (.aload_n 0, 1) := by decide +kernel
theorem dX1_init_84 : decode cX1_init 84 = .ok (.bipush 100, 2) := by decide +kernel
theorem dX1_init_86 : decode cX1_init 86 = .ok (.putfield 59, 3) := by decide +kernel
theorem dX1_init_89 : decode cX1_init 89 = .ok (.aload_n 0, 1) := by decide +kernel
theorem dX1_init_90 : decode cX1_init 90 = .ok (.iconst 0, 1) := by decide +kernel
theorem dX1_init_91 : decode cX1_init 91 = .ok (.putfield 62, 3) := by decide +kernel
theorem dX1_init_94 : decode cX1_init 94 = .ok (.return_, 1) := by decide +kernel
theorem dX1_hasPlanted_0 : decode cX1_hasPlanted 0 = .ok (.aload_n 0, 1) := by decide +kernel
theorem dX1_hasPlanted_1 : decode cX1_hasPlanted 1 = .ok (.getfield 50, 3) := by decide +kernel
theorem dX1_hasPlanted_4 : decode cX1_hasPlanted 4 = .ok (.iconst (-1), 1) := by decide +kernel
theorem dX1_hasPlanted_5 : decode cX1_hasPlanted 5 = .ok (.if_icmp .eq 7, 3) := by decide +kernel
theorem dX1_hasPlanted_8 : decode cX1_hasPlanted 8 = .ok (.iconst 1, 1) := by decide +kernel
theorem dX1_hasPlanted_9 : decode cX1_hasPlanted 9 = .ok (.goto 4, 3) := by decide +kernel
theorem dX1_hasPlanted_12 : decode cX1_hasPlanted 12 = .ok (.iconst 0, 1) := by decide +kernel
theorem dX1_hasPlanted_13 : decode cX1_hasPlanted 13 = .ok (.ireturn, 1) := by decide +kernel
theorem dX1_freeGrain_0 : decode cX1_freeGrain 0 = .ok (.aload_n 0, 1) := by decide +kernel
theorem dX1_freeGrain_1 : decode cX1_freeGrain 1 = .ok (.getfield 41, 3) := by decide +kernel
theorem dX1_freeGrain_4 : decode cX1_freeGrain 4 = .ok (.aload_n 0, 1) := by decide +kernel
theorem dX1_freeGrain_5 : decode cX1_freeGrain 5 = .ok (.getfield 44, 3) := by decide +kernel
theorem dX1_freeGrain_8 : decode cX1_freeGrain 8 = .ok (.isub, 1) := by decide +kernel
theorem dX1_freeGrain_9 : decode cX1_freeGrain 9 = .ok (.ireturn, 1) := by decide +kernel
theorem dX1_charge_0 : decode cX1_charge 0 = .ok (.aload_n 0, 1) := by decide +kernel
theorem dX1_charge_1 : decode cX1_charge 1 = .ok (.dup, 1) := by decide +kernel
theorem dX1_charge_2 : decode cX1_charge 2 = .ok (.getfield 19, 3) := by decide +kernel
theorem dX1_charge_5 : decode cX1_charge 5 = .ok (.lload_n 1, 1) := by decide +kernel
theorem dX1_charge_6 : decode cX1_charge 6 = .ok (.ladd, 1) := by decide +kernel
theorem dX1_charge_7 : decode cX1_charge 7 = .ok (.putfield 19, 3) := by decide +kernel
theorem dX1_charge_10 : decode cX1_charge 10 = .ok (.aload_n 0, 1) := by decide +kernel
theorem dX1_charge_11 : decode cX1_charge 11 = .ok (.dup, 1) := by decide +kernel
theorem dX1_charge_12 : decode cX1_charge 12 = .ok (.getfield 25, 3) := by decide +kernel
theorem dX1_charge_15 : decode cX1_charge 15 = .ok (.lload_n 1, 1) := by decide +kernel
theorem dX1_charge_16 : decode cX1_charge 16 = .ok (.ladd, 1) := by decide +kernel
theorem dX1_charge_17 : decode cX1_charge 17 = .ok (.putfield 25, 3) := by decide +kernel
theorem dX1_charge_20 : decode cX1_charge 20 = .ok (.return_, 1) := by decide +kernel
set_option maxRecDepth 20000 in
theorem ggX1_chargeInterest_X1_charge : GoodIn wsX1_chargeInterest wsX1_charge := goodIn_r _ [8, 1, 9, 10, 11, 12, 13, 14, 15, 16, 17, 18, 19, 20, 21, 22, 23, 24, 25, 26] (by decide +kernel) (by decide +kernel)
set_option maxRecDepth 20000 in
theorem gX1_chargeInterest_X1_charge : GoodIn wsX1_chargeInterest (wsV RX1 69 RX1 yX1_charge wsX1_charge) := goodIn_app (goodIn_of _ (by decide +kernel)) ggX1_chargeInterest_X1_charge
theorem dX1_chargeInterest_0 : decode cX1_chargeInterest 0 = .ok (.aload_n 0, 1) := by decide +kernel
theorem dX1_chargeInterest_1 : decode cX1_chargeInterest 1 = .ok (.aload_n 0, 1) := by decide +kernel
theorem dX1_chargeInterest_2 : decode cX1_chargeInterest 2 = .ok (.getfield 19, 3) := by decide +kernel
theorem dX1_chargeInterest_5 : decode cX1_chargeInterest 5 = .ok (.ldc2_w 65, 3) := by decide +kernel
theorem dX1_chargeInterest_8 : decode cX1_chargeInterest 8 = .ok (.lmul, 1) := by decide +kernel
theorem dX1_chargeInterest_9 : decode cX1_chargeInterest 9 = .ok (.ldc2_w 67, 3) := by decide +kernel
theorem dX1_chargeInterest_12 : decode cX1_chargeInterest 12 = .ok (.ldiv, 1) := by decide +kernel
theorem dX1_chargeInterest_13 : decode cX1_chargeInterest 13 = .ok (.invokevirtual 69, 3) := by decide +kernel
theorem dX1_chargeInterest_16 : decode cX1_chargeInterest 16 = .ok (.return_, 1) := by decide +kernel
theorem dX1_lowerDebt_0 : decode cX1_lowerDebt 0 = .ok (.aload_n 0, 1) := by decide +kernel
theorem dX1_lowerDebt_1 : decode cX1_lowerDebt 1 = .ok (.dup, 1) := by decide +kernel
theorem dX1_lowerDebt_2 : decode cX1_lowerDebt 2 = .ok (.getfield 19, 3) := by decide +kernel
theorem dX1_lowerDebt_5 : decode cX1_lowerDebt 5 = .ok (.lload_n 1, 1) := by decide +kernel
theorem dX1_lowerDebt_6 : decode cX1_lowerDebt 6 = .ok (.lsub, 1) := by decide +kernel
theorem dX1_lowerDebt_7 : decode cX1_lowerDebt 7 = .ok (.putfield 19, 3) := by decide +kernel
theorem dX1_lowerDebt_10 : decode cX1_lowerDebt 10 = .ok (.iload_n 3, 1) := by decide +kernel
theorem dX1_lowerDebt_11 : decode cX1_lowerDebt 11 = .ok (.ifCond .lt 18, 3) := by decide +kernel
theorem dX1_lowerDebt_14 : decode cX1_lowerDebt 14 = .ok (.iload_n 3, 1) := by decide +kernel
theorem dX1_lowerDebt_15 : decode cX1_lowerDebt 15 = .ok (.iconst 5, 1) := by decide +kernel
theorem dX1_lowerDebt_16 : decode cX1_lowerDebt 16 = .ok (.if_icmp .ge 13, 3) := by decide +kernel
theorem dX1_lowerDebt_19 : decode cX1_lowerDebt 19 = .ok (.aload_n 0, 1) := by decide +kernel
theorem dX1_lowerDebt_20 : decode cX1_lowerDebt 20 = .ok (.getfield 31, 3) := by decide +kernel
theorem dX1_lowerDebt_23 : decode cX1_lowerDebt 23 = .ok (.iload_n 3, 1) := by decide +kernel
theorem dX1_lowerDebt_24 : decode cX1_lowerDebt 24 = .ok (.dup2, 1) := by decide +kernel
theorem dX1_lowerDebt_25 : decode cX1_lowerDebt 25 = .ok (.laload, 1) := by decide +kernel
theorem dX1_lowerDebt_26 : decode cX1_lowerDebt 26 = .ok (.lload_n 1, 1) := by decide +kernel
theorem dX1_lowerDebt_27 : decode cX1_lowerDebt 27 = .ok (.ladd, 1) := by decide +kernel
theorem dX1_lowerDebt_28 : decode cX1_lowerDebt 28 = .ok (.lastore, 1) := by decide +kernel
theorem dX1_lowerDebt_29 : decode cX1_lowerDebt 29 = .ok (.return_, 1) := by decide +kernel
set_option maxRecDepth 20000 in
theorem ggX1_receive_X1_lowerDebt : GoodIn wsX1_receive wsX1_lowerDebt := goodIn_r _ [11, 1, 12, 13, 14, 15, 16, 17, 18, 19, 20, 21, 22, 23, 24, 25, 26, 27, 28, 29] (by decide +kernel) (by decide +kernel)
set_option maxRecDepth 20000 in
theorem gX1_receive_X1_lowerDebt : GoodIn wsX1_receive (wsV RX1 79 RX1 yX1_lowerDebt wsX1_lowerDebt) := goodIn_app (goodIn_of _ (by decide +kernel)) ggX1_receive_X1_lowerDebt
theorem dX1_receive_0 : decode cX1_receive 0 = .ok (.lload_n 1, 1) := by decide +kernel
theorem dX1_receive_1 : decode cX1_receive 1 = .ok (.aload_n 0, 1) := by decide +kernel
theorem dX1_receive_2 : decode cX1_receive 2 = .ok (.getfield 19, 3) := by decide +kernel
theorem dX1_receive_5 : decode cX1_receive 5 = .ok (.invokestatic 73, 3) := by decide +kernel
theorem dX1_receive_8 : decode cX1_receive 8 = .ok (.lstore 4, 2) := by decide +kernel
theorem dX1_receive_10 : decode cX1_receive 10 = .ok (.aload_n 0, 1) := by decide +kernel
theorem dX1_receive_11 : decode cX1_receive 11 = .ok (.lload 4, 2) := by decide +kernel
theorem dX1_receive_13 : decode cX1_receive 13 = .ok (.iload_n 3, 1) := by decide +kernel
theorem dX1_receive_14 : decode cX1_receive 14 = .ok (.invokevirtual 79, 3) := by decide +kernel
theorem dX1_receive_17 : decode cX1_receive 17 = .ok (.aload_n 0, 1) := by decide +kernel
theorem dX1_receive_18 : decode cX1_receive 18 = .ok (.dup, 1) := by decide +kernel
theorem dX1_receive_19 : decode cX1_receive 19 = .ok (.getfield 15, 3) := by decide +kernel
theorem dX1_receive_22 : decode cX1_receive 22 = .ok (.lload_n 1, 1) := by decide +kernel
theorem dX1_receive_23 : decode cX1_receive 23 = .ok (.lload 4, 2) := by decide +kernel
theorem dX1_receive_25 : decode cX1_receive 25 = .ok (.lsub, 1) := by decide +kernel
theorem dX1_receive_26 : decode cX1_receive 26 = .ok (.ladd, 1) := by decide +kernel
theorem dX1_receive_27 : decode cX1_receive 27 = .ok (.putfield 15, 3) := by decide +kernel
theorem dX1_receive_30 : decode cX1_receive 30 = .ok (.return_, 1) := by decide +kernel
set_option maxRecDepth 20000 in
theorem ggX1_repayFromPurse_X1_lowerDebt : GoodIn wsX1_repayFromPurse wsX1_lowerDebt := goodIn_r _ [6, 7, 8, 9, 10, 11, 12, 13, 14, 15, 16, 17, 18, 19, 20, 21, 22, 23, 24, 25] (by decide +kernel) (by decide +kernel)
set_option maxRecDepth 20000 in
theorem gX1_repayFromPurse_X1_lowerDebt : GoodIn wsX1_repayFromPurse (wsV RX1 79 RX1 yX1_lowerDebt wsX1_lowerDebt) := goodIn_app (goodIn_of _ (by decide +kernel)) ggX1_repayFromPurse_X1_lowerDebt
theorem dX1_repayFromPurse_0 : decode cX1_repayFromPurse 0 = .ok (.aload_n 0, 1) := by decide +kernel
theorem dX1_repayFromPurse_1 : decode cX1_repayFromPurse 1 = .ok (.dup, 1) := by decide +kernel
theorem dX1_repayFromPurse_2 : decode cX1_repayFromPurse 2 = .ok (.getfield 15, 3) := by decide +kernel
theorem dX1_repayFromPurse_5 : decode cX1_repayFromPurse 5 = .ok (.lload_n 1, 1) := by decide +kernel
theorem dX1_repayFromPurse_6 : decode cX1_repayFromPurse 6 = .ok (.lsub, 1) := by decide +kernel
theorem dX1_repayFromPurse_7 : decode cX1_repayFromPurse 7 = .ok (.putfield 15, 3) := by decide +kernel
theorem dX1_repayFromPurse_10 : decode cX1_repayFromPurse 10 = .ok (.aload_n 0, 1) := by decide +kernel
theorem dX1_repayFromPurse_11 : decode cX1_repayFromPurse 11 = .ok (.lload_n 1, 1) := by decide +kernel
theorem dX1_repayFromPurse_12 : decode cX1_repayFromPurse 12 = .ok (.iconst 0, 1) := by decide +kernel
theorem dX1_repayFromPurse_13 : decode cX1_repayFromPurse 13 = .ok (.invokevirtual 79, 3) := by decide +kernel
theorem dX1_repayFromPurse_16 : decode cX1_repayFromPurse 16 = .ok (.return_, 1) := by decide +kernel
set_option maxRecDepth 20000 in
theorem ggX1_harvest_X1_receive : GoodIn wsX1_harvest wsX1_receive := goodIn_r _ [14, 15, 16, 17, 18, 19, 20, 21, 22, 23, 13, 24, 25, 26, 27, 28, 29, 30, 31, 32, 33, 34, 35, 36, 37, 38, 39, 40, 41, 42] (by decide +kernel) (by decide +kernel)
set_option maxRecDepth 20000 in
theorem gX1_harvest_X1_receive : GoodIn wsX1_harvest (wsV RX1 91 RX1 yX1_receive wsX1_receive) := goodIn_app (goodIn_of _ (by decide +kernel)) ggX1_harvest_X1_receive
theorem dX1_harvest_0 : decode cX1_harvest 0 = .ok (.aload_n 0, 1) := by decide +kernel
theorem dX1_harvest_1 : decode cX1_harvest 1 = .ok (.getfield 53, 3) := by decide +kernel
theorem dX1_harvest_4 : decode cX1_harvest 4 = .ok (.aload_n 1, 1) := by decide +kernel
theorem dX1_harvest_5 : decode cX1_harvest 5 = .ok (.getfield 83, 3) := by decide +kernel
theorem dX1_harvest_8 : decode cX1_harvest 8 = .ok (.imul, 1) := by decide +kernel
theorem dX1_harvest_9 : decode cX1_harvest 9 = .ok (.istore_n 2, 1) := by decide +kernel
theorem dX1_harvest_10 : decode cX1_harvest 10 = .ok (.aload_n 0, 1) := by decide +kernel
theorem dX1_harvest_11 : decode cX1_harvest 11 = .ok (.dup, 1) := by decide +kernel
theorem dX1_harvest_12 : decode cX1_harvest 12 = .ok (.getfield 41, 3) := by decide +kernel
theorem dX1_harvest_15 : decode cX1_harvest 15 = .ok (.iload_n 2, 1) := by decide +kernel
theorem dX1_harvest_16 : decode cX1_harvest 16 = .ok (.aload_n 0, 1) := by decide +kernel
theorem dX1_harvest_17 : decode cX1_harvest 17 = .ok (.getfield 59, 3) := by decide +kernel
theorem dX1_harvest_20 : decode cX1_harvest 20 = .ok (.imul, 1) := by decide +kernel
theorem dX1_harvest_21 : decode cX1_harvest 21 = .ok (.bipush 100, 2) := by decide +kernel
theorem dX1_harvest_23 : decode cX1_harvest 23 = .ok (.idiv, 1) := by decide +kernel
theorem dX1_harvest_24 : decode cX1_harvest 24 = .ok (.iadd, 1) := by decide +kernel
theorem dX1_harvest_25 : decode cX1_harvest 25 = .ok (.putfield 41, 3) := by decide +kernel
theorem dX1_harvest_28 : decode cX1_harvest 28 = .ok (.aload_n 0, 1) := by decide +kernel
theorem dX1_harvest_29 : decode cX1_harvest 29 = .ok (.aload_n 0, 1) := by decide +kernel
theorem dX1_harvest_30 : decode cX1_harvest 30 = .ok (.getfield 50, 3) := by decide +kernel
theorem dX1_harvest_33 : decode cX1_harvest 33 = .ok (.putfield 47, 3) := by decide +kernel
theorem dX1_harvest_36 : decode cX1_harvest 36 = .ok (.aload_n 0, 1) := by decide +kernel
theorem dX1_harvest_37 : decode cX1_harvest 37 = .ok (.getfield 59, 3) := by decide +kernel
theorem dX1_harvest_40 : decode cX1_harvest 40 = .ok (.aload_n 0, 1) := by decide +kernel
theorem dX1_harvest_41 : decode cX1_harvest 41 = .ok (.getfield 56, 3) := by decide +kernel
theorem dX1_harvest_44 : decode cX1_harvest 44 = .ok (.if_icmp .ge 33, 3) := by decide +kernel
theorem dX1_harvest_47 : decode cX1_harvest 47 = .ok (.iload_n 2, 1) := by decide +kernel
theorem dX1_harvest_48 : decode cX1_harvest 48 = .ok (.i2l, 1) := by decide +kernel
theorem dX1_harvest_49 : decode cX1_harvest 49 = .ok (.aload_n 1, 1) := by decide +kernel
theorem dX1_harvest_50 : decode cX1_harvest 50 = .ok (.getfield 88, 3) := by decide +kernel
theorem dX1_harvest_53 : decode cX1_harvest 53 = .ok (.i2l, 1) := by decide +kernel
theorem dX1_harvest_54 : decode cX1_harvest 54 = .ok (.lmul, 1) := by decide +kernel
theorem dX1_harvest_55 : decode cX1_harvest 55 = .ok (.aload_n 0, 1) := by decide +kernel
theorem dX1_harvest_56 : decode cX1_harvest 56 = .ok (.getfield 56, 3) := by decide +kernel
theorem dX1_harvest_59 : decode cX1_harvest 59 = .ok (.aload_n 0, 1) := by decide +kernel
theorem dX1_harvest_60 : decode cX1_harvest 60 = .ok (.getfield 59, 3) := by decide +kernel
theorem dX1_harvest_63 : decode cX1_harvest 63 = .ok (.isub, 1) := by decide +kernel
theorem dX1_harvest_64 : decode cX1_harvest 64 = .ok (.i2l, 1) := by decide +kernel
theorem dX1_harvest_65 : decode cX1_harvest 65 = .ok (.lmul, 1) := by decide +kernel
theorem dX1_harvest_66 : decode cX1_harvest 66 = .ok (.lstore_n 3, 1) := by decide +kernel
theorem dX1_harvest_67 : decode cX1_harvest 67 = .ok (.aload_n 0, 1) := by decide +kernel
theorem dX1_harvest_68 : decode cX1_harvest 68 = .ok (.lload_n 3, 1) := by decide +kernel
theorem dX1_harvest_69 : decode cX1_harvest 69 = .ok (.ldc2_w 67, 3) := by decide +kernel
theorem dX1_harvest_72 : decode cX1_harvest 72 = .ok (.ldiv, 1) := by decide +kernel
theorem dX1_harvest_73 : decode cX1_harvest 73 = .ok (.iconst 1, 1) := by decide +kernel
theorem dX1_harvest_74 : decode cX1_harvest 74 = .ok (.invokevirtual 91, 3) := by decide +kernel
theorem dX1_harvest_77 : decode cX1_harvest 77 = .ok (.return_, 1) := by decide +kernel
set_option maxRecDepth 20000 in
theorem ggX1_pledgeUnits_X1_receive : GoodIn wsX1_pledgeUnits wsX1_receive := goodIn_r _ [9, 10, 11, 12, 13, 14, 15, 16, 17, 18, 8, 19, 20, 21, 22, 23, 24, 25, 26, 27, 28, 29, 30, 31, 32, 33, 34, 35, 36, 37] (by decide +kernel) (by decide +kernel)
set_option maxRecDepth 20000 in
theorem gX1_pledgeUnits_X1_receive : GoodIn wsX1_pledgeUnits (wsV RX1 91 RX1 yX1_receive wsX1_receive) := goodIn_app (goodIn_of _ (by decide +kernel)) ggX1_pledgeUnits_X1_receive
theorem dX1_pledgeUnits_0 : decode cX1_pledgeUnits 0 = .ok (.iload_n 1, 1) := by decide +kernel
theorem dX1_pledgeUnits_1 : decode cX1_pledgeUnits 1 = .ok (.i2l, 1) := by decide +kernel
theorem dX1_pledgeUnits_2 : decode cX1_pledgeUnits 2 = .ok (.iload_n 2, 1) := by decide +kernel
theorem dX1_pledgeUnits_3 : decode cX1_pledgeUnits 3 = .ok (.i2l, 1) := by decide +kernel
theorem dX1_pledgeUnits_4 : decode cX1_pledgeUnits 4 = .ok (.lmul, 1) := by decide +kernel
theorem dX1_pledgeUnits_5 : decode cX1_pledgeUnits 5 = .ok (.ldc2_w 94, 3) := by decide +kernel
theorem dX1_pledgeUnits_8 : decode cX1_pledgeUnits 8 = .ok (.lmul, 1) := by decide +kernel
theorem dX1_pledgeUnits_9 : decode cX1_pledgeUnits 9 = .ok (.ldc2_w 67, 3) := by decide +kernel
theorem dX1_pledgeUnits_12 : decode cX1_pledgeUnits 12 = .ok (.ldiv, 1) := by decide +kernel
theorem dX1_pledgeUnits_13 : decode cX1_pledgeUnits 13 = .ok (.lstore_n 3, 1) := by decide +kernel
theorem dX1_pledgeUnits_14 : decode cX1_pledgeUnits 14 = .ok (.aload_n 0, 1) := by decide +kernel
theorem dX1_pledgeUnits_15 : decode cX1_pledgeUnits 15 = .ok (.dup, 1) := by decide +kernel
theorem dX1_pledgeUnits_16 : decode cX1_pledgeUnits 16 = .ok (.getfield 44, 3) := by decide +kernel
theorem dX1_pledgeUnits_19 : decode cX1_pledgeUnits 19 = .ok (.iload_n 1, 1) := by decide +kernel
theorem dX1_pledgeUnits_20 : decode cX1_pledgeUnits 20 = .ok (.iadd, 1) := by decide +kernel
theorem dX1_pledgeUnits_21 : decode cX1_pledgeUnits 21 = .ok (.putfield 44, 3) := by decide +kernel
theorem dX1_pledgeUnits_24 : decode cX1_pledgeUnits 24 = .ok (.aload_n 0, 1) := by decide +kernel
theorem dX1_pledgeUnits_25 : decode cX1_pledgeUnits 25 = .ok (.dup, 1) := by decide +kernel
theorem dX1_pledgeUnits_26 : decode cX1_pledgeUnits 26 = .ok (.getfield 22, 3) := by decide +kernel
theorem dX1_pledgeUnits_29 : decode cX1_pledgeUnits 29 = .ok (.lload_n 3, 1) := by decide +kernel
theorem dX1_pledgeUnits_30 : decode cX1_pledgeUnits 30 = .ok (.ladd, 1) := by decide +kernel
theorem dX1_pledgeUnits_31 : decode cX1_pledgeUnits 31 = .ok (.putfield 22, 3) := by decide +kernel
theorem dX1_pledgeUnits_34 : decode cX1_pledgeUnits 34 = .ok (.aload_n 0, 1) := by decide +kernel
theorem dX1_pledgeUnits_35 : decode cX1_pledgeUnits 35 = .ok (.lload_n 3, 1) := by decide +kernel
theorem dX1_pledgeUnits_36 : decode cX1_pledgeUnits 36 = .ok (.iconst 2, 1) := by decide +kernel
theorem dX1_pledgeUnits_37 : decode cX1_pledgeUnits 37 = .ok (.invokevirtual 91, 3) := by decide +kernel
theorem dX1_pledgeUnits_40 : decode cX1_pledgeUnits 40 = .ok (.lload_n 3, 1) := by decide +kernel
theorem dX1_pledgeUnits_41 : decode cX1_pledgeUnits 41 = .ok (.lreturn, 1) := by decide +kernel
set_option maxRecDepth 20000 in
theorem ggX1_sellUnits_X1_freeGrain : GoodIn wsX1_sellUnits wsX1_freeGrain := goodIn_r _ [15, 9, 10, 36, 37, 38, 39, 40, 41, 42, 43, 44, 45, 46, 47, 48, 49, 50, 51, 52] (by decide +kernel) (by decide +kernel)
set_option maxRecDepth 20000 in
theorem gX1_sellUnits_X1_freeGrain : GoodIn wsX1_sellUnits (wsV RX1 96 RX1 yX1_freeGrain wsX1_freeGrain) := goodIn_app (goodIn_of _ (by decide +kernel)) ggX1_sellUnits_X1_freeGrain
set_option maxRecDepth 20000 in
theorem ggX1_sellUnits_X1_receive : GoodIn wsX1_sellUnits wsX1_receive := goodIn_r _ [19, 20, 6, 7, 3, 8, 21, 22, 23, 24, 14, 25, 26, 36, 37, 38, 39, 40, 41, 42, 43, 44, 45, 46, 47, 48, 49, 50, 51, 52] (by decide +kernel) (by decide +kernel)
set_option maxRecDepth 20000 in
theorem gX1_sellUnits_X1_receive : GoodIn wsX1_sellUnits (wsV RX1 91 RX1 yX1_receive wsX1_receive) := goodIn_app (goodIn_of _ (by decide +kernel)) ggX1_sellUnits_X1_receive
set_option maxRecDepth 20000 in
theorem ggX1_sellUnits_X1_moveRestOfPledgeDebt : GoodIn wsX1_sellUnits wsX1_moveRestOfPledgeDebt := goodIn_r _ [30, 5, 31, 32, 33, 14, 34, 20, 35, 36, 37, 38, 39, 40, 41, 42, 43, 44, 45, 46, 47, 48, 49, 50, 51, 52] (by decide +kernel) (by decide +kernel)
set_option maxRecDepth 20000 in
theorem gX1_sellUnits_X1_moveRestOfPledgeDebt : GoodIn wsX1_sellUnits (wsV RX1 103 RX1 yX1_moveRestOfPledgeDebt wsX1_moveRestOfPledgeDebt) := goodIn_app (goodIn_of _ (by decide +kernel)) ggX1_sellUnits_X1_moveRestOfPledgeDebt
theorem dX1_sellUnits_0 : decode cX1_sellUnits 0 = .ok (.iload_n 1, 1) := by decide +kernel
theorem dX1_sellUnits_1 : decode cX1_sellUnits 1 = .ok (.aload_n 0, 1) := by decide +kernel
theorem dX1_sellUnits_2 : decode cX1_sellUnits 2 = .ok (.invokevirtual 96, 3) := by decide +kernel
theorem dX1_sellUnits_5 : decode cX1_sellUnits 5 = .ok (.invokestatic 100, 3) := by decide +kernel
theorem dX1_sellUnits_8 : decode cX1_sellUnits 8 = .ok (.istore_n 3, 1) := by decide +kernel
theorem dX1_sellUnits_9 : decode cX1_sellUnits 9 = .ok (.iload_n 1, 1) := by decide +kernel
theorem dX1_sellUnits_10 : decode cX1_sellUnits 10 = .ok (.iload_n 3, 1) := by decide +kernel
theorem dX1_sellUnits_11 : decode cX1_sellUnits 11 = .ok (.isub, 1) := by decide +kernel
theorem dX1_sellUnits_12 : decode cX1_sellUnits 12 = .ok (.istore 4, 2) := by decide +kernel
theorem dX1_sellUnits_14 : decode cX1_sellUnits 14 = .ok (.iload 4, 2) := by decide +kernel
theorem dX1_sellUnits_16 : decode cX1_sellUnits 16 = .ok (.i2l, 1) := by decide +kernel
theorem dX1_sellUnits_17 : decode cX1_sellUnits 17 = .ok (.iload_n 2, 1) := by decide +kernel
theorem dX1_sellUnits_18 : decode cX1_sellUnits 18 = .ok (.i2l, 1) := by decide +kernel
theorem dX1_sellUnits_19 : decode cX1_sellUnits 19 = .ok (.lmul, 1) := by decide +kernel
theorem dX1_sellUnits_20 : decode cX1_sellUnits 20 = .ok (.lstore 5, 2) := by decide +kernel
theorem dX1_sellUnits_22 : decode cX1_sellUnits 22 = .ok (.lload 5, 2) := by decide +kernel
theorem dX1_sellUnits_24 : decode cX1_sellUnits 24 = .ok (.aload_n 0, 1) := by decide +kernel
theorem dX1_sellUnits_25 : decode cX1_sellUnits 25 = .ok (.getfield 22, 3) := by decide +kernel
theorem dX1_sellUnits_28 : decode cX1_sellUnits 28 = .ok (.invokestatic 73, 3) := by decide +kernel
theorem dX1_sellUnits_31 : decode cX1_sellUnits 31 = .ok (.lstore 7, 2) := by decide +kernel
theorem dX1_sellUnits_33 : decode cX1_sellUnits 33 = .ok (.aload_n 0, 1) := by decide +kernel
theorem dX1_sellUnits_34 : decode cX1_sellUnits 34 = .ok (.dup, 1) := by decide +kernel
theorem dX1_sellUnits_35 : decode cX1_sellUnits 35 = .ok (.getfield 41, 3) := by decide +kernel
theorem dX1_sellUnits_38 : decode cX1_sellUnits 38 = .ok (.iload_n 1, 1) := by decide +kernel
theorem dX1_sellUnits_39 : decode cX1_sellUnits 39 = .ok (.isub, 1) := by decide +kernel
theorem dX1_sellUnits_40 : decode cX1_sellUnits 40 = .ok (.putfield 41, 3) := by decide +kernel
theorem dX1_sellUnits_43 : decode cX1_sellUnits 43 = .ok (.aload_n 0, 1) := by decide +kernel
theorem dX1_sellUnits_44 : decode cX1_sellUnits 44 = .ok (.dup, 1) := by decide +kernel
theorem dX1_sellUnits_45 : decode cX1_sellUnits 45 = .ok (.getfield 44, 3) := by decide +kernel
theorem dX1_sellUnits_48 : decode cX1_sellUnits 48 = .ok (.iload 4, 2) := by decide +kernel
theorem dX1_sellUnits_50 : decode cX1_sellUnits 50 = .ok (.isub, 1) := by decide +kernel
theorem dX1_sellUnits_51 : decode cX1_sellUnits 51 = .ok (.putfield 44, 3) := by decide +kernel
theorem dX1_sellUnits_54 : decode cX1_sellUnits 54 = .ok (.aload_n 0, 1) := by decide +kernel
theorem dX1_sellUnits_55 : decode cX1_sellUnits 55 = .ok (.dup, 1) := by decide +kernel
theorem dX1_sellUnits_56 : decode cX1_sellUnits 56 = .ok (.getfield 22, 3) := by decide +kernel
theorem dX1_sellUnits_59 : decode cX1_sellUnits 59 = .ok (.lload 7, 2) := by decide +kernel
theorem dX1_sellUnits_61 : decode cX1_sellUnits 61 = .ok (.lsub, 1) := by decide +kernel
theorem dX1_sellUnits_62 : decode cX1_sellUnits 62 = .ok (.putfield 22, 3) := by decide +kernel
theorem dX1_sellUnits_65 : decode cX1_sellUnits 65 = .ok (.aload_n 0, 1) := by decide +kernel
theorem dX1_sellUnits_66 : decode cX1_sellUnits 66 = .ok (.iload_n 3, 1) := by decide +kernel
theorem dX1_sellUnits_67 : decode cX1_sellUnits 67 = .ok (.i2l, 1) := by decide +kernel
theorem dX1_sellUnits_68 : decode cX1_sellUnits 68 = .ok (.iload_n 2, 1) := by decide +kernel
theorem dX1_sellUnits_69 : decode cX1_sellUnits 69 = .ok (.i2l, 1) := by decide +kernel
theorem dX1_sellUnits_70 : decode cX1_sellUnits 70 = .ok (.lmul, 1) := by decide +kernel
theorem dX1_sellUnits_71 : decode cX1_sellUnits 71 = .ok (.lload 5, 2) := by decide +kernel
theorem dX1_sellUnits_73 : decode cX1_sellUnits 73 = .ok (.ladd, 1) := by decide +kernel
theorem dX1_sellUnits_74 : decode cX1_sellUnits 74 = .ok (.lload 7, 2) := by decide +kernel
theorem dX1_sellUnits_76 : decode cX1_sellUnits 76 = .ok (.lsub, 1) := by decide +kernel
theorem dX1_sellUnits_77 : decode cX1_sellUnits 77 = .ok (.iconst 3, 1) := by decide +kernel
theorem dX1_sellUnits_78 : decode cX1_sellUnits 78 = .ok (.invokevirtual 91, 3) := by decide +kernel
theorem dX1_sellUnits_81 : decode cX1_sellUnits 81 = .ok (.aload_n 0, 1) := by decide +kernel
theorem dX1_sellUnits_82 : decode cX1_sellUnits 82 = .ok (.getfield 44, 3) := by decide +kernel
theorem dX1_sellUnits_85 : decode cX1_sellUnits 85 = .ok (.ifCond .ne 7, 3) := by decide +kernel
theorem dX1_sellUnits_88 : decode cX1_sellUnits 88 = .ok (.aload_n 0, 1) := by decide +kernel
theorem dX1_sellUnits_89 : decode cX1_sellUnits 89 = .ok (.invokevirtual 103, 3) := by decide +kernel
theorem dX1_sellUnits_92 : decode cX1_sellUnits 92 = .ok (.iload_n 1, 1) := by decide +kernel
theorem dX1_sellUnits_93 : decode cX1_sellUnits 93 = .ok (.i2l, 1) := by decide +kernel
theorem dX1_sellUnits_94 : decode cX1_sellUnits 94 = .ok (.iload_n 2, 1) := by decide +kernel
theorem dX1_sellUnits_95 : decode cX1_sellUnits 95 = .ok (.i2l, 1) := by decide +kernel
theorem dX1_sellUnits_96 : decode cX1_sellUnits 96 = .ok (.lmul, 1) := by decide +kernel
theorem dX1_sellUnits_97 : decode cX1_sellUnits 97 = .ok (.lreturn, 1) := by decide +kernel
set_option maxRecDepth 20000 in
theorem ggX1_moveRestOfPledgeDebt_X1_charge : GoodIn wsX1_moveRestOfPledgeDebt wsX1_charge := goodIn_r _ [6, 7, 8, 9, 10, 11, 12, 13, 14, 15, 16, 17, 18, 19, 20, 21, 22, 23, 24, 25] (by decide +kernel) (by decide +kernel)
set_option maxRecDepth 20000 in
theorem gX1_moveRestOfPledgeDebt_X1_charge : GoodIn wsX1_moveRestOfPledgeDebt (wsV RX1 69 RX1 yX1_charge wsX1_charge) := goodIn_app (goodIn_of _ (by decide +kernel)) ggX1_moveRestOfPledgeDebt_X1_charge
theorem dX1_moveRestOfPledgeDebt_0 : decode cX1_moveRestOfPledgeDebt 0 = .ok (.aload_n 0, 1) := by decide +kernel
theorem dX1_moveRestOfPledgeDebt_1 : decode cX1_moveRestOfPledgeDebt 1 = .ok (.aload_n 0, 1) := by decide +kernel
theorem dX1_moveRestOfPledgeDebt_2 : decode cX1_moveRestOfPledgeDebt 2 = .ok (.getfield 22, 3) := by decide +kernel
theorem dX1_moveRestOfPledgeDebt_5 : decode cX1_moveRestOfPledgeDebt 5 = .ok (.invokevirtual 69, 3) := by decide +kernel
theorem dX1_moveRestOfPledgeDebt_8 : decode cX1_moveRestOfPledgeDebt 8 = .ok (.aload_n 0, 1) := by decide +kernel
theorem dX1_moveRestOfPledgeDebt_9 : decode cX1_moveRestOfPledgeDebt 9 = .ok (.lconst 0, 1) := by decide +kernel
theorem dX1_moveRestOfPledgeDebt_10 : decode cX1_moveRestOfPledgeDebt 10 = .ok (.putfield 22, 3) := by decide +kernel
theorem dX1_moveRestOfPledgeDebt_13 : decode cX1_moveRestOfPledgeDebt 13 = .ok (.return_, 1) := by decide +kernel
set_option maxRecDepth 20000 in
theorem ggX1_settleFromPurse_X1_takeInstalment : GoodIn wsX1_settleFromPurse wsX1_takeInstalment := goodIn_r _ [12, 13, 14, 24, 25, 26, 27, 28, 29, 30, 31, 32, 33, 34, 35, 36, 37, 38, 39, 40] (by decide +kernel) (by decide +kernel)
set_option maxRecDepth 20000 in
theorem gX1_settleFromPurse_X1_takeInstalment : GoodIn wsX1_settleFromPurse (wsV RX1 106 RX1 yX1_takeInstalment wsX1_takeInstalment) := goodIn_app (goodIn_of _ (by decide +kernel)) ggX1_settleFromPurse_X1_takeInstalment
set_option maxRecDepth 20000 in
theorem ggX1_settleFromPurse_X1_repayFromPurse : GoodIn wsX1_settleFromPurse wsX1_repayFromPurse := goodIn_r _ [18, 3, 19, 20, 21, 11, 22, 2, 23, 24, 25, 26, 27, 28, 29, 30, 31, 32, 33, 34, 35, 36, 37, 38, 39, 40] (by decide +kernel) (by decide +kernel)
set_option maxRecDepth 20000 in
theorem gX1_settleFromPurse_X1_repayFromPurse : GoodIn wsX1_settleFromPurse (wsV RX1 110 RX1 yX1_repayFromPurse wsX1_repayFromPurse) := goodIn_app (goodIn_of _ (by decide +kernel)) ggX1_settleFromPurse_X1_repayFromPurse
theorem dX1_settleFromPurse_0 : decode cX1_settleFromPurse 0 = .ok (.aload_n 0, 1) := by decide +kernel
theorem dX1_settleFromPurse_1 : decode cX1_settleFromPurse 1 = .ok (.lconst 0, 1) := by decide +kernel
theorem dX1_settleFromPurse_2 : decode cX1_settleFromPurse 2 = .ok (.putfield 28, 3) := by decide +kernel
theorem dX1_settleFromPurse_5 : decode cX1_settleFromPurse 5 = .ok (.aload_n 0, 1) := by decide +kernel
theorem dX1_settleFromPurse_6 : decode cX1_settleFromPurse 6 = .ok (.dup, 1) := by decide +kernel
theorem dX1_settleFromPurse_7 : decode cX1_settleFromPurse 7 = .ok (.getfield 19, 3) := by decide +kernel
theorem dX1_settleFromPurse_10 : decode cX1_settleFromPurse 10 = .ok (.aload_n 0, 1) := by decide +kernel
theorem dX1_settleFromPurse_11 : decode cX1_settleFromPurse 11 = .ok (.invokevirtual 106, 3) := by decide +kernel
theorem dX1_settleFromPurse_14 : decode cX1_settleFromPurse 14 = .ok (.ladd, 1) := by decide +kernel
theorem dX1_settleFromPurse_15 : decode cX1_settleFromPurse 15 = .ok (.putfield 19, 3) := by decide +kernel
theorem dX1_settleFromPurse_18 : decode cX1_settleFromPurse 18 = .ok (.aload_n 0, 1) := by decide +kernel
theorem dX1_settleFromPurse_19 : decode cX1_settleFromPurse 19 = .ok (.aload_n 0, 1) := by decide +kernel
theorem dX1_settleFromPurse_20 : decode cX1_settleFromPurse 20 = .ok (.getfield 19, 3) := by decide +kernel
theorem dX1_settleFromPurse_23 : decode cX1_settleFromPurse 23 = .ok (.aload_n 0, 1) := by decide +kernel
theorem dX1_settleFromPurse_24 : decode cX1_settleFromPurse 24 = .ok (.getfield 15, 3) := by decide +kernel
theorem dX1_settleFromPurse_27 : decode cX1_settleFromPurse 27 = .ok (.invokestatic 73, 3) := by decide +kernel
theorem dX1_settleFromPurse_30 : decode cX1_settleFromPurse 30 = .ok (.invokevirtual 110, 3) := by decide +kernel
theorem dX1_settleFromPurse_33 : decode cX1_settleFromPurse 33 = .ok (.return_, 1) := by decide +kernel
theorem dX1_takeInstalment_0 : decode cX1_takeInstalment 0 = .ok (.iconst 3, 1) := by decide +kernel
theorem dX1_takeInstalment_1 : decode cX1_takeInstalment 1 = .ok (.aload_n 0, 1) := by decide +kernel
theorem dX1_takeInstalment_2 : decode cX1_takeInstalment 2 = .ok (.getfield 38, 3) := by decide +kernel
theorem dX1_takeInstalment_5 : decode cX1_takeInstalment 5 = .ok (.isub, 1) := by decide +kernel
theorem dX1_takeInstalment_6 : decode cX1_takeInstalment 6 = .ok (.istore_n 1, 1) := by decide +kernel
theorem dX1_takeInstalment_7 : decode cX1_takeInstalment 7 = .ok (.iload_n 1, 1) := by decide +kernel
theorem dX1_takeInstalment_8 : decode cX1_takeInstalment 8 = .ok (.ifCond .lt 8, 3) := by decide +kernel
theorem dX1_takeInstalment_11 : decode cX1_takeInstalment 11 = .ok (.iload_n 1, 1) := by decide +kernel
theorem dX1_takeInstalment_12 : decode cX1_takeInstalment 12 = .ok (.iconst 3, 1) := by decide +kernel
theorem dX1_takeInstalment_13 : decode cX1_takeInstalment 13 = .ok (.if_icmp .lt 5, 3) := by decide +kernel
theorem dX1_takeInstalment_16 : decode cX1_takeInstalment 16 = .ok (.lconst 0, 1) := by decide +kernel
theorem dX1_takeInstalment_17 : decode cX1_takeInstalment 17 = .ok (.lreturn, 1) := by decide +kernel
theorem dX1_takeInstalment_18 : decode cX1_takeInstalment 18 = .ok (.aload_n 0, 1) := by decide +kernel
theorem dX1_takeInstalment_19 : decode cX1_takeInstalment 19 = .ok (.dup, 1) := by decide +kernel
theorem dX1_takeInstalment_20 : decode cX1_takeInstalment 20 = .ok (.getfield 38, 3) := by decide +kernel
theorem dX1_takeInstalment_23 : decode cX1_takeInstalment 23 = .ok (.iconst 1, 1) := by decide +kernel
theorem dX1_takeInstalment_24 : decode cX1_takeInstalment 24 = .ok (.isub, 1) := by decide +kernel
theorem dX1_takeInstalment_25 : decode cX1_takeInstalment 25 = .ok (.putfield 38, 3) := by decide +kernel
theorem dX1_takeInstalment_28 : decode cX1_takeInstalment 28 = .ok (.aload_n 0, 1) := by decide +kernel
theorem dX1_takeInstalment_29 : decode cX1_takeInstalment 29 = .ok (.getfield 35, 3) := by decide +kernel
theorem dX1_takeInstalment_32 : decode cX1_takeInstalment 32 = .ok (.iload_n 1, 1) := by decide +kernel
theorem dX1_takeInstalment_33 : decode cX1_takeInstalment 33 = .ok (.laload, 1) := by decide +kernel
theorem dX1_takeInstalment_34 : decode cX1_takeInstalment 34 = .ok (.lreturn, 1) := by decide +kernel
theorem dX1_instalmentSum_0 : decode cX1_instalmentSum 0 = .ok (.lconst 0, 1) := by decide +kernel
theorem dX1_instalmentSum_1 : decode cX1_instalmentSum 1 = .ok (.lstore_n 1, 1) := by decide +kernel
theorem dX1_instalmentSum_2 : decode cX1_instalmentSum 2 = .ok (.iconst 0, 1) := by decide +kernel
theorem dX1_instalmentSum_3 : decode cX1_instalmentSum 3 = .ok (.istore_n 3, 1) := by decide +kernel
theorem dX1_instalmentSum_4 : decode cX1_instalmentSum 4 = .ok (.iload_n 3, 1) := by decide +kernel
theorem dX1_instalmentSum_5 : decode cX1_instalmentSum 5 = .ok (.iconst 3, 1) := by decide +kernel
theorem dX1_instalmentSum_6 : decode cX1_instalmentSum 6 = .ok (.if_icmp .ge 28, 3) := by decide +kernel
theorem dX1_instalmentSum_9 : decode cX1_instalmentSum 9 = .ok (.iload_n 3, 1) := by decide +kernel
theorem dX1_instalmentSum_10 : decode cX1_instalmentSum 10 = .ok (.iconst 3, 1) := by decide +kernel
theorem dX1_instalmentSum_11 : decode cX1_instalmentSum 11 = .ok (.aload_n 0, 1) := by decide +kernel
theorem dX1_instalmentSum_12 : decode cX1_instalmentSum 12 = .ok (.getfield 38, 3) := by decide +kernel
theorem dX1_instalmentSum_15 : decode cX1_instalmentSum 15 = .ok (.isub, 1) := by decide +kernel
theorem dX1_instalmentSum_16 : decode cX1_instalmentSum 16 = .ok (.if_icmp .lt 12, 3) := by decide +kernel
theorem dX1_instalmentSum_19 : decode cX1_instalmentSum 19 = .ok (.lload_n 1, 1) := by decide +kernel
theorem dX1_instalmentSum_20 : decode cX1_instalmentSum 20 = .ok (.aload_n 0, 1) := by decide +kernel
theorem dX1_instalmentSum_21 : decode cX1_instalmentSum 21 = .ok (.getfield 35, 3) := by decide +kernel
theorem dX1_instalmentSum_24 : decode cX1_instalmentSum 24 = .ok (.iload_n 3, 1) := by decide +kernel
theorem dX1_instalmentSum_25 : decode cX1_instalmentSum 25 = .ok (.laload, 1) := by decide +kernel
theorem dX1_instalmentSum_26 : decode cX1_instalmentSum 26 = .ok (.ladd, 1) := by decide +kernel
theorem dX1_instalmentSum_27 : decode cX1_instalmentSum 27 = .ok (.lstore_n 1, 1) := by decide +kernel
theorem dX1_instalmentSum_28 : decode cX1_instalmentSum 28 = .ok (.iinc 3 1, 3) := by decide +kernel
theorem dX1_instalmentSum_31 : decode cX1_instalmentSum 31 = .ok (.goto (-27), 3) := by decide +kernel
theorem dX1_instalmentSum_34 : decode cX1_instalmentSum 34 = .ok (.lload_n 1, 1) := by decide +kernel
theorem dX1_instalmentSum_35 : decode cX1_instalmentSum 35 = .ok (.lreturn, 1) := by decide +kernel
set_option maxRecDepth 20000 in
theorem ggX1_mayRoll_X1_hasPlanted : GoodIn wsX1_mayRoll wsX1_hasPlanted := goodIn_r _ [7, 8, 9, 10, 11, 12, 13, 14, 15, 16, 17, 18, 19, 20, 21, 22, 23, 24, 25] (by decide +kernel) (by decide +kernel)
set_option maxRecDepth 20000 in
theorem gX1_mayRoll_X1_hasPlanted : GoodIn wsX1_mayRoll (wsV RX1 113 RX1 yX1_hasPlanted wsX1_hasPlanted) := goodIn_app (goodIn_of _ (by decide +kernel)) ggX1_mayRoll_X1_hasPlanted
theorem dX1_mayRoll_0 : decode cX1_mayRoll 0 = .ok (.aload_n 0, 1) := by decide +kernel
theorem dX1_mayRoll_1 : decode cX1_mayRoll 1 = .ok (.invokevirtual 113, 3) := by decide +kernel
theorem dX1_mayRoll_4 : decode cX1_mayRoll 4 = .ok (.ifCond .eq 23, 3) := by decide +kernel
theorem dX1_mayRoll_7 : decode cX1_mayRoll 7 = .ok (.aload_n 0, 1) := by decide +kernel
theorem dX1_mayRoll_8 : decode cX1_mayRoll 8 = .ok (.getfield 59, 3) := by decide +kernel
theorem dX1_mayRoll_11 : decode cX1_mayRoll 11 = .ok (.bipush 60, 2) := by decide +kernel
theorem dX1_mayRoll_13 : decode cX1_mayRoll 13 = .ok (.if_icmp .ge 14, 3) := by decide +kernel
theorem dX1_mayRoll_16 : decode cX1_mayRoll 16 = .ok (.aload_n 0, 1) := by decide +kernel
theorem dX1_mayRoll_17 : decode cX1_mayRoll 17 = .ok (.getfield 38, 3) := by decide +kernel
theorem dX1_mayRoll_20 : decode cX1_mayRoll 20 = .ok (.ifCond .ne 7, 3) := by decide +kernel
theorem dX1_mayRoll_23 : decode cX1_mayRoll 23 = .ok (.iconst 1, 1) := by decide +kernel
theorem dX1_mayRoll_24 : decode cX1_mayRoll 24 = .ok (.goto 4, 3) := by decide +kernel
theorem dX1_mayRoll_27 : decode cX1_mayRoll 27 = .ok (.iconst 0, 1) := by decide +kernel
theorem dX1_mayRoll_28 : decode cX1_mayRoll 28 = .ok (.ireturn, 1) := by decide +kernel
theorem dX1_rollDebt_0 : decode cX1_rollDebt 0 = .ok (.aload_n 0, 1) := by decide +kernel
theorem dX1_rollDebt_1 : decode cX1_rollDebt 1 = .ok (.getfield 19, 3) := by decide +kernel
theorem dX1_rollDebt_4 : decode cX1_rollDebt 4 = .ok (.ldc2_w 117, 3) := by decide +kernel
theorem dX1_rollDebt_7 : decode cX1_rollDebt 7 = .ok (.ldiv, 1) := by decide +kernel
theorem dX1_rollDebt_8 : decode cX1_rollDebt 8 = .ok (.lstore_n 1, 1) := by decide +kernel
theorem dX1_rollDebt_9 : decode cX1_rollDebt 9 = .ok (.iconst 0, 1) := by decide +kernel
theorem dX1_rollDebt_10 : decode cX1_rollDebt 10 = .ok (.istore_n 3, 1) := by decide +kernel
theorem dX1_rollDebt_11 : decode cX1_rollDebt 11 = .ok (.iload_n 3, 1) := by decide +kernel
theorem dX1_rollDebt_12 : decode cX1_rollDebt 12 = .ok (.iconst 3, 1) := by decide +kernel
theorem dX1_rollDebt_13 : decode cX1_rollDebt 13 = .ok (.if_icmp .ge 16, 3) := by decide +kernel
theorem dX1_rollDebt_16 : decode cX1_rollDebt 16 = .ok (.aload_n 0, 1) := by decide +kernel
theorem dX1_rollDebt_17 : decode cX1_rollDebt 17 = .ok (.getfield 35, 3) := by decide +kernel
theorem dX1_rollDebt_20 : decode cX1_rollDebt 20 = .ok (.iload_n 3, 1) := by decide +kernel
theorem dX1_rollDebt_21 : decode cX1_rollDebt 21 = .ok (.lload_n 1, 1) := by decide +kernel
theorem dX1_rollDebt_22 : decode cX1_rollDebt 22 = .ok (.lastore, 1) := by decide +kernel
theorem dX1_rollDebt_23 : decode cX1_rollDebt 23 = .ok (.iinc 3 1, 3) := by decide +kernel
theorem dX1_rollDebt_26 : decode cX1_rollDebt 26 = .ok (.goto (-15), 3) := by decide +kernel
theorem dX1_rollDebt_29 : decode cX1_rollDebt 29 = .ok (.aload_n 0, 1) := by decide +kernel
theorem dX1_rollDebt_30 : decode cX1_rollDebt 30 = .ok (.getfield 35, 3) := by decide +kernel
theorem dX1_rollDebt_33 : decode cX1_rollDebt 33 = .ok (.iconst 2, 1) := by decide +kernel
theorem dX1_rollDebt_34 : decode cX1_rollDebt 34 = .ok (.aload_n 0, 1) := by decide +kernel
theorem dX1_rollDebt_35 : decode cX1_rollDebt 35 = .ok (.getfield 19, 3) := by decide +kernel
theorem dX1_rollDebt_38 : decode cX1_rollDebt 38 = .ok (.lload_n 1, 1) := by decide +kernel
theorem dX1_rollDebt_39 : decode cX1_rollDebt 39 = .ok (.ldc2_w 65, 3) := by decide +kernel
theorem dX1_rollDebt_42 : decode cX1_rollDebt 42 = .ok (.lmul, 1) := by decide +kernel
theorem dX1_rollDebt_43 : decode cX1_rollDebt 43 = .ok (.lsub, 1) := by decide +kernel
theorem dX1_rollDebt_44 : decode cX1_rollDebt 44 = .ok (.lastore, 1) := by decide +kernel
theorem dX1_rollDebt_45 : decode cX1_rollDebt 45 = .ok (.aload_n 0, 1) := by decide +kernel
theorem dX1_rollDebt_46 : decode cX1_rollDebt 46 = .ok (.iconst 3, 1) := by decide +kernel
theorem dX1_rollDebt_47 : decode cX1_rollDebt 47 = .ok (.putfield 38, 3) := by decide +kernel
theorem dX1_rollDebt_50 : decode cX1_rollDebt 50 = .ok (.aload_n 0, 1) := by decide +kernel
theorem dX1_rollDebt_51 : decode cX1_rollDebt 51 = .ok (.lconst 0, 1) := by decide +kernel
theorem dX1_rollDebt_52 : decode cX1_rollDebt 52 = .ok (.putfield 19, 3) := by decide +kernel
theorem dX1_rollDebt_55 : decode cX1_rollDebt 55 = .ok (.return_, 1) := by decide +kernel
set_option maxRecDepth 20000 in
theorem ggX1_payFor_X1_lowerDebt : GoodIn wsX1_payFor wsX1_lowerDebt := goodIn_r _ [13, 1, 14, 15, 16, 17, 18, 19, 20, 21, 22, 23, 24, 25, 26, 27, 28, 29, 30, 31] (by decide +kernel) (by decide +kernel)
set_option maxRecDepth 20000 in
theorem gX1_payFor_X1_lowerDebt : GoodIn wsX1_payFor (wsV RX1 79 RX1 yX1_lowerDebt wsX1_lowerDebt) := goodIn_app (goodIn_of _ (by decide +kernel)) ggX1_payFor_X1_lowerDebt
theorem dX1_payFor_0 : decode cX1_payFor 0 = .ok (.aload_n 1, 1) := by decide +kernel
theorem dX1_payFor_1 : decode cX1_payFor 1 = .ok (.getfield 19, 3) := by decide +kernel
theorem dX1_payFor_4 : decode cX1_payFor 4 = .ok (.aload_n 0, 1) := by decide +kernel
theorem dX1_payFor_5 : decode cX1_payFor 5 = .ok (.getfield 15, 3) := by decide +kernel
theorem dX1_payFor_8 : decode cX1_payFor 8 = .ok (.ldc2_w 119, 3) := by decide +kernel
theorem dX1_payFor_11 : decode cX1_payFor 11 = .ok (.aload_n 0, 1) := by decide +kernel
theorem dX1_payFor_12 : decode cX1_payFor 12 = .ok (.getfield 28, 3) := by decide +kernel
theorem dX1_payFor_15 : decode cX1_payFor 15 = .ok (.lsub, 1) := by decide +kernel
theorem dX1_payFor_16 : decode cX1_payFor 16 = .ok (.invokestatic 73, 3) := by decide +kernel
theorem dX1_payFor_19 : decode cX1_payFor 19 = .ok (.invokestatic 73, 3) := by decide +kernel
theorem dX1_payFor_22 : decode cX1_payFor 22 = .ok (.lstore_n 2, 1) := by decide +kernel
theorem dX1_payFor_23 : decode cX1_payFor 23 = .ok (.aload_n 0, 1) := by decide +kernel
theorem dX1_payFor_24 : decode cX1_payFor 24 = .ok (.dup, 1) := by decide +kernel
theorem dX1_payFor_25 : decode cX1_payFor 25 = .ok (.getfield 15, 3) := by decide +kernel
theorem dX1_payFor_28 : decode cX1_payFor 28 = .ok (.lload_n 2, 1) := by decide +kernel
theorem dX1_payFor_29 : decode cX1_payFor 29 = .ok (.lsub, 1) := by decide +kernel
theorem dX1_payFor_30 : decode cX1_payFor 30 = .ok (.putfield 15, 3) := by decide +kernel
theorem dX1_payFor_33 : decode cX1_payFor 33 = .ok (.aload_n 0, 1) := by decide +kernel
theorem dX1_payFor_34 : decode cX1_payFor 34 = .ok (.dup, 1) := by decide +kernel
theorem dX1_payFor_35 : decode cX1_payFor 35 = .ok (.getfield 28, 3) := by decide +kernel
theorem dX1_payFor_38 : decode cX1_payFor 38 = .ok (.lload_n 2, 1) := by decide +kernel
theorem dX1_payFor_39 : decode cX1_payFor 39 = .ok (.ladd, 1) := by decide +kernel
theorem dX1_payFor_40 : decode cX1_payFor 40 = .ok (.putfield 28, 3) := by decide +kernel
theorem dX1_payFor_43 : decode cX1_payFor 43 = .ok (.aload_n 1, 1) := by decide +kernel
theorem dX1_payFor_44 : decode cX1_payFor 44 = .ok (.lload_n 2, 1) := by decide +kernel
theorem dX1_payFor_45 : decode cX1_payFor 45 = .ok (.iconst 4, 1) := by decide +kernel
theorem dX1_payFor_46 : decode cX1_payFor 46 = .ok (.invokevirtual 79, 3) := by decide +kernel
theorem dX1_payFor_49 : decode cX1_payFor 49 = .ok (.return_, 1) := by decide +kernel
theorem dX1_forgetSeason_0 : decode cX1_forgetSeason 0 = .ok (.aload_n 0, 1) := by decide +kernel
theorem dX1_forgetSeason_1 : decode cX1_forgetSeason 1 = .ok (.iconst (-1), 1) := by decide +kernel
theorem dX1_forgetSeason_2 : decode cX1_forgetSeason 2 = .ok (.putfield 50, 3) := by decide +kernel
theorem dX1_forgetSeason_5 : decode cX1_forgetSeason 5 = .ok (.aload_n 0, 1) := by decide +kernel
theorem dX1_forgetSeason_6 : decode cX1_forgetSeason 6 = .ok (.iconst 0, 1) := by decide +kernel
theorem dX1_forgetSeason_7 : decode cX1_forgetSeason 7 = .ok (.putfield 53, 3) := by decide +kernel
theorem dX1_forgetSeason_10 : decode cX1_forgetSeason 10 = .ok (.aload_n 0, 1) := by decide +kernel
theorem dX1_forgetSeason_11 : decode cX1_forgetSeason 11 = .ok (.iconst 0, 1) := by decide +kernel
theorem dX1_forgetSeason_12 : decode cX1_forgetSeason 12 = .ok (.putfield 56, 3) := by decide +kernel
theorem dX1_forgetSeason_15 : decode cX1_forgetSeason 15 = .ok (.aload_n 0, 1) := by decide +kernel
theorem dX1_forgetSeason_16 : decode cX1_forgetSeason 16 = .ok (.bipush 100, 2) := by decide +kernel
theorem dX1_forgetSeason_18 : decode cX1_forgetSeason 18 = .ok (.putfield 59, 3) := by decide +kernel
theorem dX1_forgetSeason_21 : decode cX1_forgetSeason 21 = .ok (.aload_n 0, 1) := by decide +kernel
theorem dX1_forgetSeason_22 : decode cX1_forgetSeason 22 = .ok (.iconst 0, 1) := by decide +kernel
theorem dX1_forgetSeason_23 : decode cX1_forgetSeason 23 = .ok (.putfield 62, 3) := by decide +kernel
theorem dX1_forgetSeason_26 : decode cX1_forgetSeason 26 = .ok (.return_, 1) := by decide +kernel
