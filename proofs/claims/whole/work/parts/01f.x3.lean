theorem dX3_init_0 : decode cX3_init 0 = .ok (.aload_n 0, 1) := by decide +kernel
theorem dX3_init_1 : decode cX3_init 1 = .ok (.invokespecial 1, 3) := by decide +kernel
theorem dX3_init_4 : decode cX3_init 4 = .ok (.aload_n 0, 1) := by decide +kernel
theorem dX3_init_5 : decode cX3_init 5 = .ok (.bipush 12, 2) := by decide +kernel
theorem dX3_init_7 : decode cX3_init 7 = .ok (.newarray .int, 2) := by decide +kernel
theorem dX3_init_9 : decode cX3_init 9 = .ok (.putfield 7, 3) := by decide +kernel
theorem dX3_init_12 : decode cX3_init 12 = .ok (.aload_n 0, 1) := by decide +kernel
theorem dX3_init_13 : decode cX3_init 13 = .ok (.iconst 3, 1) := by decide +kernel
theorem dX3_init_14 : decode cX3_init 14 = .ok (.newarray .int, 2) := by decide +kernel
theorem dX3_init_16 : decode cX3_init 16 = .ok (.putfield 13, 3) := by decide +kernel
theorem dX3_init_19 : decode cX3_init 19 = .ok (.aload_n 0, 1) := by decide +kernel
theorem dX3_init_20 : decode cX3_init 20 = .ok (.iconst 3, 1) := by decide +kernel
theorem dX3_init_21 : decode cX3_init 21 = .ok (.newarray .int, 2) := by decide +kernel
theorem dX3_init_23 : decode cX3_init 23 = .ok (.putfield 16, 3) := by decide +kernel
theorem dX3_init_26 : decode cX3_init 26 = .ok (.aload_n 0, 1) := by decide +kernel
theorem dX3_init_27 : decode cX3_init 27 = .ok (.bipush 8, 2) := by decide +kernel
theorem dX3_init_29 : decode cX3_init 29 = .ok (.newarray .int, 2) := by decide +kernel
theorem dX3_init_31 : decode cX3_init 31 = .ok (.putfield 19, 3) := by decide +kernel
theorem dX3_init_34 : decode cX3_init 34 = .ok (.aload_n 0, 1) := by decide +kernel
theorem dX3_init_35 : decode cX3_init 35 = .ok (.bipush 8, 2) := by decide +kernel
theorem dX3_init_37 : decode cX3_init 37 = .ok (.newarray .int, 2) := by decide +kernel
theorem dX3_init_39 : decode cX3_init 39 = .ok (.putfield 22, 3) := by decide +kernel
theorem dX3_init_42 : decode cX3_init 42 = .ok (.aload_n 0, 1) := by decide +kernel
theorem dX3_init_43 : decode cX3_init 43 = .ok (.bipush 8, 2) := by decide +kernel
theorem dX3_init_45 : decode cX3_init 45 = .ok (.newarray .int, 2) := by decide +kernel
theorem dX3_init_47 : decode cX3_init 47 = .ok (.putfield 25, 3) := by decide +kernel
theorem dX3_init_50 : decode cX3_init 50 = .ok (.aload_n 0, 1) := by decide +kernel
theorem dX3_init_51 : decode cX3_init 51 = .ok (.bipush 8, 2) := by decide +kernel
theorem dX3_init_53 : decode cX3_init 53 = .ok (.newarray .int, 2) := by decide +kernel
theorem dX3_init_55 : decode cX3_init 55 = .ok (.putfield 28, 3) := by decide +kernel
theorem dX3_init_58 : decode cX3_init 58 = .ok (.aload_n 0, 1) := by decide +kernel
theorem dX3_init_59 : decode cX3_init 59 = .ok (.bipush 8, 2) := by decide +kernel
theorem dX3_init_61 : decode cX3_init 61 = .ok (.newarray .int, 2) := by decide +kernel
theorem dX3_init_63 : decode cX3_init 63 = .ok (.putfield 31, 3) := by decide +kernel
theorem dX3_init_66 : decode cX3_init 66 = .ok (.aload_n 0, 1) := by decide +kernel
theorem dX3_init_67 : decode cX3_init 67 = .ok (.bipush 8, 2) := by decide +kernel
theorem dX3_init_69 : decode cX3_init 69 = .ok (.newarray .int, 2) := by decide +kernel
theorem dX3_init_71 : decode cX3_init 71 = .ok (.putfield 34, 3) := by decide +kernel
theorem dX3_init_74 : decode cX3_init 74 = .ok (.aload_n 0, 1) := by decide +kernel
theorem dX3_init_75 : decode cX3_init 75 = .ok (.bipush 8, 2) := by decide +kernel
theorem dX3_init_77 : decode cX3_init 77 = .ok (.newarray .int, 2) := by decide +kernel
theorem dX3_init_79 : decode cX3_init 79 = .ok (.putfield 37, 3) := by decide +kernel
theorem dX3_init_82 : decode cX3_init 82 = .ok (.aload_n 0, 1) := by decide +kernel
theorem dX3_init_83 : decode cX3_init 83 = .ok (.bipush 8, 2) := by decide +kernel
theorem dX3_init_85 : decode cX3_init 85 = .ok (.newarray .int, 2) := by decide +kernel
theorem dX3_init_87 : decode cX3_init 87 = .ok (.putfield 40, 3) := by decide +kernel
theorem dX3_init_90 : decode cX3_init 90 = .ok (.aload_n 0, 1) := by decide +kernel
theorem dX3_init_91 : decode cX3_init 91 = .ok (.bipush 24, 2) := by decide +kernel
theorem dX3_init_93 : decode cX3_init 93 = .ok (.newarray .int, 2) := by decide +kernel
theorem dX3_init_95 : decode cX3_init 95 = .ok (.putfield 43, 3) := by decide +kernel
theorem dX3_init_98 : decode cX3_init 98 = .ok (.aload_n 0, 1) := by decide +kernel
theorem dX3_init_99 : decode cX3_init 99 = .ok (.bipush 8, 2) := by decide +kernel
theorem dX3_init_101 : decode cX3_init 101 = .ok (.newarray .int, 2) := by decide +kernel
theorem dX3_init_103 : decode cX3_init 103 = .ok (.putfield 46, 3) := by decide +kernel
theorem dX3_init_106 : decode cX3_init 106 = .ok (.aload_n 0, 1) := by decide +kernel
theorem dX3_init_107 : decode cX3_init 107 = .ok (.bipush 8, 2) := by decide +kernel
theorem dX3_init_109 : decode cX3_init 109 = .ok (.newarray .int, 2) := by decide +kernel
theorem dX3_init_111 : decode cX3_init 111 = .ok (.putfield 49, 3) := by decide +kernel
theorem dX3_init_114 : decode cX3_init 114 = .ok (.aload_n 0, 1) := by decide +kernel
theorem dX3_init_115 : decode cX3_init 115 = .ok (.bipush 8, 2) := by decide +kernel
theorem dX3_init_117 : decode cX3_init 117 = .ok (.newarray .int, 2) := by decide +kernel
theorem dX3_init_119 : decode cX3_init 119 = .ok (.putfield 52, 3) := by decide +kernel
theorem dX3_init_122 : decode cX3_init 122 = .ok (.aload_n 0, 1) := by decide +kernel
theorem dX3_init_123 : decode cX3_init 123 = .ok (.bipush 8, 2) := by decide +kernel
theorem dX3_init_125 : decode cX3_init 125 = .ok (.newarray .int, 2) := by decide +kernel
theorem dX3_init_127 : decode cX3_init 127 = .ok (.putfield 55, 3) := by decide +kernel
theorem dX3_init_130 : decode cX3_init 130 = .ok (.aload_n 0, 1) := by decide +kernel
theorem dX3_init_131 : decode cX3_init 131 = .ok (.bipush 8, 2) := by decide +kernel
theorem dX3_init_133 : decode cX3_init 133 = .ok (.newarray .int, 2) := by decide +kernel
theorem dX3_init_135 : decode cX3_init 135 = .ok (.putfield 58, 3) := by decide +kernel
theorem dX3_init_138 : decode cX3_init 138 = .ok (.aload_n 0, 1) := by decide +kernel
theorem dX3_init_139 : decode cX3_init 139 = .ok (.bipush 8, 2) := by decide +kernel
theorem dX3_init_141 : decode cX3_init 141 = .ok (.newarray .int, 2) := by decide +kernel
theorem dX3_init_143 : decode cX3_init 143 = .ok (.putfield 61, 3) := by decide +kernel
theorem dX3_init_146 : decode cX3_init 146 = .ok (.aload_n 0, 1) := by decide +kernel
theorem dX3_init_147 : decode cX3_init 147 = .ok (.bipush 40, 2) := by decide +kernel
theorem dX3_init_149 : decode cX3_init 149 = .ok (.newarray .int, 2) := by decide +kernel
theorem dX3_init_151 : decode cX3_init 151 = .ok (.putfield 64, 3) := by decide +kernel
theorem dX3_init_154 : decode cX3_init 154 = .ok (.aload_n 0, 1) := by decide +kernel
theorem dX3_init_155 : decode cX3_init 155 = .ok (.bipush 8, 2) := by decide +kernel
theorem dX3_init_157 : decode cX3_init 157 = .ok (.newarray .int, 2) := by decide +kernel
theorem dX3_init_159 : decode cX3_init 159 = .ok (.putfield 67, 3) := by decide +kernel
theorem dX3_init_162 : decode cX3_init 162 = .ok (.iconst 0, 1) := by decide +kernel
theorem dX3_init_163 : decode cX3_init 163 = .ok (.istore_n 1, 1) := by decide +kernel
theorem dX3_init_164 : decode cX3_init 164 = .ok (.iload_n 1, 1) := by decide +kernel
theorem dX3_init_165 : decode cX3_init 165 = .ok (.bipush 12, 2) := by decide +kernel
theorem dX3_init_167 : decode cX3_init 167 = .ok (.if_icmp .ge 18, 3) := by decide +kernel
theorem dX3_init_170 : decode cX3_init 170 = .ok (.aload_n 0, 1) := by decide +kernel
theorem dX3_init_171 : decode cX3_init 171 = .ok (.getfield 7, 3) := by decide +kernel
theorem dX3_init_174 : decode cX3_init 174 = .ok (.iload_n 1, 1) := by decide +kernel
theorem dX3_init_175 : decode cX3_init 175 = .ok (.sipush 1000, 3) := by decide +kernel
theorem dX3_init_178 : decode cX3_init 178 = .ok (.iastore, 1) := by decide +kernel
theorem dX3_init_179 : decode cX3_init 179 = .ok (.iinc 1 1, 3) := by decide +kernel
theorem dX3_init_182 : decode cX3_init 182 = .ok (.goto (-18), 3) := by decide +kernel
theorem dX3_init_185 : decode cX3_init 185 = .ok (.iconst 0, 1) := by decide +kernel
theorem dX3_init_186 : decode cX3_init 186 = .ok (.istore_n 1, 1) := by decide +kernel
theorem dX3_init_187 : decode cX3_init 187 = .ok (.iload_n 1, 1) := by decide +kernel
theorem dX3_init_188 : decode cX3_init 188 = .ok (.iconst 3, 1) := by decide +kernel
theorem dX3_init_189 : decode cX3_init 189 = .ok (.if_icmp .ge 25, 3) := by decide +kernel
theorem dX3_init_192 : decode cX3_init 192 = .ok (.aload_n 0, 1) := by decide +kernel
theorem dX3_init_193 : decode cX3_init 193 = .ok (.getfield 13, 3) := by decide +kernel
theorem dX3_init_196 : decode cX3_init 196 = .ok (.iload_n 1, 1) := by decide +kernel
theorem dX3_init_197 : decode cX3_init 197 = .ok (.bipush 100, 2) := by decide +kernel
theorem dX3_init_199 : decode cX3_init 199 = .ok (.iastore, 1) := by decide +kernel
theorem dX3_init_200 : decode cX3_init 200 = .ok (.aload_n 0, 1) := by decide +kernel
theorem dX3_init_201 : decode cX3_init 201 = .ok (.getfield 16, 3) := by decide +kernel
theorem dX3_init_204 : decode cX3_init 204 = .ok (.iload_n 1, 1) := by decide +kernel
theorem dX3_init_205 : decode cX3_init 205 = .ok (.bipush 50, 2) := by decide +kernel
theorem dX3_init_207 : decode cX3_init 207 = .ok (.iastore, 1) := by decide +kernel
theorem dX3_init_208 : decode cX3_init 208 = .ok (.iinc 1 1, 3) := by decide +kernel
theorem dX3_init_211 : decode cX3_init 211 = .ok (.goto (-24), 3) := by decide +kernel
theorem dX3_init_214 : decode cX3_init 214 = .ok (.return_, 1) := by decide +kernel
theorem dX3_thrown_0 : decode cX3_thrown 0 = .ok (.aload_n 0, 1) := by decide +kernel
theorem dX3_thrown_1 : decode cX3_thrown 1 = .ok (.getfield 70, 3) := by decide +kernel
theorem dX3_thrown_4 : decode cX3_thrown 4 = .ok (.ireturn, 1) := by decide +kernel
theorem dX3_refused_0 : decode cX3_refused 0 = .ok (.aload_n 0, 1) := by decide +kernel
theorem dX3_refused_1 : decode cX3_refused 1 = .ok (.iload_n 1, 1) := by decide +kernel
theorem dX3_refused_2 : decode cX3_refused 2 = .ok (.putfield 70, 3) := by decide +kernel
theorem dX3_refused_5 : decode cX3_refused 5 = .ok (.iload_n 1, 1) := by decide +kernel
theorem dX3_refused_6 : decode cX3_refused 6 = .ok (.ifCond .eq 7, 3) := by decide +kernel
theorem dX3_refused_9 : decode cX3_refused 9 = .ok (.iconst 1, 1) := by decide +kernel
theorem dX3_refused_10 : decode cX3_refused 10 = .ok (.goto 4, 3) := by decide +kernel
theorem dX3_refused_13 : decode cX3_refused 13 = .ok (.iconst 0, 1) := by decide +kernel
theorem dX3_refused_14 : decode cX3_refused 14 = .ok (.ireturn, 1) := by decide +kernel
theorem dX3_fine_0 : decode cX3_fine 0 = .ok (.aload_n 0, 1) := by decide +kernel
theorem dX3_fine_1 : decode cX3_fine 1 = .ok (.iconst 0, 1) := by decide +kernel
theorem dX3_fine_2 : decode cX3_fine 2 = .ok (.putfield 70, 3) := by decide +kernel
theorem dX3_fine_5 : decode cX3_fine 5 = .ok (.iload_n 1, 1) := by decide +kernel
theorem dX3_fine_6 : decode cX3_fine 6 = .ok (.ireturn, 1) := by decide +kernel
theorem dX3_in_0 : decode cX3_in 0 = .ok (.iload_n 0, 1) := by decide +kernel
theorem dX3_in_1 : decode cX3_in 1 = .ok (.iload_n 1, 1) := by decide +kernel
theorem dX3_in_2 : decode cX3_in 2 = .ok (.if_icmp .lt 12, 3) := by decide +kernel
theorem dX3_in_5 : decode cX3_in 5 = .ok (.iload_n 0, 1) := by decide +kernel
theorem dX3_in_6 : decode cX3_in 6 = .ok (.iload_n 2, 1) := by decide +kernel
theorem dX3_in_7 : decode cX3_in 7 = .ok (.if_icmp .gt 7, 3) := by decide +kernel
theorem dX3_in_10 : decode cX3_in 10 = .ok (.iconst 1, 1) := by decide +kernel
theorem dX3_in_11 : decode cX3_in 11 = .ok (.goto 4, 3) := by decide +kernel
theorem dX3_in_14 : decode cX3_in 14 = .ok (.iconst 0, 1) := by decide +kernel
theorem dX3_in_15 : decode cX3_in 15 = .ok (.ireturn, 1) := by decide +kernel
set_option maxRecDepth 20000 in
theorem ggX3_isCrop_X3_in : GoodIn wsX3_isCrop wsX3_in := goodIn_r _ [4] (by decide +kernel) (by decide +kernel)
set_option maxRecDepth 20000 in
theorem gX3_isCrop_X3_in : GoodIn wsX3_isCrop (va_wsS RX3 74 yX3_in wsX3_in) := goodIn_app (goodIn_of _ (by decide +kernel)) ggX3_isCrop_X3_in
theorem dX3_isCrop_0 : decode cX3_isCrop 0 = .ok (.iload_n 0, 1) := by decide +kernel
theorem dX3_isCrop_1 : decode cX3_isCrop 1 = .ok (.iconst 0, 1) := by decide +kernel
theorem dX3_isCrop_2 : decode cX3_isCrop 2 = .ok (.iconst 2, 1) := by decide +kernel
theorem dX3_isCrop_3 : decode cX3_isCrop 3 = .ok (.invokestatic 74, 3) := by decide +kernel
theorem dX3_isCrop_6 : decode cX3_isCrop 6 = .ok (.ireturn, 1) := by decide +kernel
set_option maxRecDepth 20000 in
theorem ggX3_isFarmer_X3_in : GoodIn wsX3_isFarmer wsX3_in := goodIn_r _ [5] (by decide +kernel) (by decide +kernel)
set_option maxRecDepth 20000 in
theorem gX3_isFarmer_X3_in : GoodIn wsX3_isFarmer (va_wsS RX3 74 yX3_in wsX3_in) := goodIn_app (goodIn_of _ (by decide +kernel)) ggX3_isFarmer_X3_in
theorem dX3_isFarmer_0 : decode cX3_isFarmer 0 = .ok (.iload_n 1, 1) := by decide +kernel
theorem dX3_isFarmer_1 : decode cX3_isFarmer 1 = .ok (.iconst 0, 1) := by decide +kernel
theorem dX3_isFarmer_2 : decode cX3_isFarmer 2 = .ok (.aload_n 0, 1) := by decide +kernel
theorem dX3_isFarmer_3 : decode cX3_isFarmer 3 = .ok (.getfield 78, 3) := by decide +kernel
theorem dX3_isFarmer_6 : decode cX3_isFarmer 6 = .ok (.iconst 1, 1) := by decide +kernel
theorem dX3_isFarmer_7 : decode cX3_isFarmer 7 = .ok (.isub, 1) := by decide +kernel
theorem dX3_isFarmer_8 : decode cX3_isFarmer 8 = .ok (.invokestatic 74, 3) := by decide +kernel
theorem dX3_isFarmer_11 : decode cX3_isFarmer 11 = .ok (.ireturn, 1) := by decide +kernel
set_option maxRecDepth 20000 in
theorem ggX3_setNeed_X3_isCrop : GoodIn wsX3_setNeed wsX3_isCrop := goodIn_r _ [6, 7, 8, 5, 9] (by decide +kernel) (by decide +kernel)
set_option maxRecDepth 20000 in
theorem gX3_setNeed_X3_isCrop : GoodIn wsX3_setNeed (va_wsS RX3 81 yX3_isCrop wsX3_isCrop) := goodIn_app (goodIn_of _ (by decide +kernel)) ggX3_setNeed_X3_isCrop
set_option maxRecDepth 20000 in
theorem ggX3_setNeed_X3_in : GoodIn wsX3_setNeed wsX3_in := goodIn_r _ [9] (by decide +kernel) (by decide +kernel)
set_option maxRecDepth 20000 in
theorem gX3_setNeed_X3_in : GoodIn wsX3_setNeed (va_wsS RX3 74 yX3_in wsX3_in) := goodIn_app (goodIn_of _ (by decide +kernel)) ggX3_setNeed_X3_in
set_option maxRecDepth 20000 in
theorem ggX3_setNeed_X3_refused : GoodIn wsX3_setNeed wsX3_refused := goodIn_r _ [13, 14, 15, 16, 17, 18, 19, 20, 21, 22, 23, 24, 25, 26, 27, 28, 29, 30, 31, 32, 33, 34, 35, 36, 37, 38] (by decide +kernel) (by decide +kernel)
set_option maxRecDepth 20000 in
theorem gX3_setNeed_X3_refused : GoodIn wsX3_setNeed (wsV RX3 86 RX3 yX3_refused wsX3_refused) := goodIn_app (goodIn_of _ (by decide +kernel)) ggX3_setNeed_X3_refused
theorem dX3_setNeed_0 : decode cX3_setNeed 0 = .ok (.iload_n 1, 1) := by decide +kernel
theorem dX3_setNeed_1 : decode cX3_setNeed 1 = .ok (.invokestatic 81, 3) := by decide +kernel
theorem dX3_setNeed_4 : decode cX3_setNeed 4 = .ok (.ifCond .eq 16, 3) := by decide +kernel
theorem dX3_setNeed_7 : decode cX3_setNeed 7 = .ok (.iload_n 2, 1) := by decide +kernel
theorem dX3_setNeed_8 : decode cX3_setNeed 8 = .ok (.iconst 0, 1) := by decide +kernel
theorem dX3_setNeed_9 : decode cX3_setNeed 9 = .ok (.iconst 3, 1) := by decide +kernel
theorem dX3_setNeed_10 : decode cX3_setNeed 10 = .ok (.invokestatic 74, 3) := by decide +kernel
theorem dX3_setNeed_13 : decode cX3_setNeed 13 = .ok (.ifCond .eq 7, 3) := by decide +kernel
theorem dX3_setNeed_16 : decode cX3_setNeed 16 = .ok (.iconst 1, 1) := by decide +kernel
theorem dX3_setNeed_17 : decode cX3_setNeed 17 = .ok (.goto 4, 3) := by decide +kernel
theorem dX3_setNeed_20 : decode cX3_setNeed 20 = .ok (.iconst 0, 1) := by decide +kernel
theorem dX3_setNeed_21 : decode cX3_setNeed 21 = .ok (.istore 4, 2) := by decide +kernel
theorem dX3_setNeed_23 : decode cX3_setNeed 23 = .ok (.aload_n 0, 1) := by decide +kernel
theorem dX3_setNeed_24 : decode cX3_setNeed 24 = .ok (.iload 4, 2) := by decide +kernel
theorem dX3_setNeed_26 : decode cX3_setNeed 26 = .ok (.ifCond .ne 7, 3) := by decide +kernel
theorem dX3_setNeed_29 : decode cX3_setNeed 29 = .ok (.iconst 1, 1) := by decide +kernel
theorem dX3_setNeed_30 : decode cX3_setNeed 30 = .ok (.goto 18, 3) := by decide +kernel
theorem dX3_setNeed_33 : decode cX3_setNeed 33 = .ok (.iload_n 3, 1) := by decide +kernel
theorem dX3_setNeed_34 : decode cX3_setNeed 34 = .ok (.iconst 0, 1) := by decide +kernel
theorem dX3_setNeed_35 : decode cX3_setNeed 35 = .ok (.ldc 85, 2) := by decide +kernel
theorem dX3_setNeed_37 : decode cX3_setNeed 37 = .ok (.invokestatic 74, 3) := by decide +kernel
theorem dX3_setNeed_40 : decode cX3_setNeed 40 = .ok (.ifCond .eq 7, 3) := by decide +kernel
theorem dX3_setNeed_43 : decode cX3_setNeed 43 = .ok (.iconst 0, 1) := by decide +kernel
theorem dX3_setNeed_44 : decode cX3_setNeed 44 = .ok (.goto 4, 3) := by decide +kernel
theorem dX3_setNeed_47 : decode cX3_setNeed 47 = .ok (.iconst 2, 1) := by decide +kernel
theorem dX3_setNeed_48 : decode cX3_setNeed 48 = .ok (.invokevirtual 86, 3) := by decide +kernel
theorem dX3_setNeed_51 : decode cX3_setNeed 51 = .ok (.ifCond .eq 5, 3) := by decide +kernel
theorem dX3_setNeed_54 : decode cX3_setNeed 54 = .ok (.iconst 0, 1) := by decide +kernel
theorem dX3_setNeed_55 : decode cX3_setNeed 55 = .ok (.ireturn, 1) := by decide +kernel
theorem dX3_setNeed_56 : decode cX3_setNeed 56 = .ok (.aload_n 0, 1) := by decide +kernel
theorem dX3_setNeed_57 : decode cX3_setNeed 57 = .ok (.getfield 7, 3) := by decide +kernel
theorem dX3_setNeed_60 : decode cX3_setNeed 60 = .ok (.iconst 4, 1) := by decide +kernel
theorem dX3_setNeed_61 : decode cX3_setNeed 61 = .ok (.iload_n 1, 1) := by decide +kernel
theorem dX3_setNeed_62 : decode cX3_setNeed 62 = .ok (.imul, 1) := by decide +kernel
theorem dX3_setNeed_63 : decode cX3_setNeed 63 = .ok (.iload_n 2, 1) := by decide +kernel
theorem dX3_setNeed_64 : decode cX3_setNeed 64 = .ok (.iadd, 1) := by decide +kernel
theorem dX3_setNeed_65 : decode cX3_setNeed 65 = .ok (.iaload, 1) := by decide +kernel
theorem dX3_setNeed_66 : decode cX3_setNeed 66 = .ok (.istore 5, 2) := by decide +kernel
theorem dX3_setNeed_68 : decode cX3_setNeed 68 = .ok (.aload_n 0, 1) := by decide +kernel
theorem dX3_setNeed_69 : decode cX3_setNeed 69 = .ok (.getfield 7, 3) := by decide +kernel
theorem dX3_setNeed_72 : decode cX3_setNeed 72 = .ok (.iconst 4, 1) := by decide +kernel
theorem dX3_setNeed_73 : decode cX3_setNeed 73 = .ok (.iload_n 1, 1) := by decide +kernel
theorem dX3_setNeed_74 : decode cX3_setNeed 74 = .ok (.imul, 1) := by decide +kernel
theorem dX3_setNeed_75 : decode cX3_setNeed 75 = .ok (.iload_n 2, 1) := by decide +kernel
theorem dX3_setNeed_76 : decode cX3_setNeed 76 = .ok (.iadd, 1) := by decide +kernel
theorem dX3_setNeed_77 : decode cX3_setNeed 77 = .ok (.iload_n 3, 1) := by decide +kernel
theorem dX3_setNeed_78 : decode cX3_setNeed 78 = .ok (.iastore, 1) := by decide +kernel
theorem dX3_setNeed_79 : decode cX3_setNeed 79 = .ok (.iload 5, 2) := by decide +kernel
theorem dX3_setNeed_81 : decode cX3_setNeed 81 = .ok (.ireturn, 1) := by decide +kernel
set_option maxRecDepth 20000 in
theorem ggX3_setCrop_X3_isCrop : GoodIn wsX3_setCrop wsX3_isCrop := goodIn_r _ [6, 7, 8, 5, 9] (by decide +kernel) (by decide +kernel)
set_option maxRecDepth 20000 in
theorem gX3_setCrop_X3_isCrop : GoodIn wsX3_setCrop (va_wsS RX3 81 yX3_isCrop wsX3_isCrop) := goodIn_app (goodIn_of _ (by decide +kernel)) ggX3_setCrop_X3_isCrop
set_option maxRecDepth 20000 in
theorem ggX3_setCrop_X3_in : GoodIn wsX3_setCrop wsX3_in := goodIn_r _ [9] (by decide +kernel) (by decide +kernel)
set_option maxRecDepth 20000 in
theorem gX3_setCrop_X3_in : GoodIn wsX3_setCrop (va_wsS RX3 74 yX3_in wsX3_in) := goodIn_app (goodIn_of _ (by decide +kernel)) ggX3_setCrop_X3_in
set_option maxRecDepth 20000 in
theorem ggX3_setCrop_X3_refused : GoodIn wsX3_setCrop wsX3_refused := goodIn_r _ [13, 14, 15, 16, 17, 18, 19, 20, 21, 22, 23, 24, 25, 26, 27, 28, 29, 30, 31, 32, 33, 34, 35, 36, 37, 38] (by decide +kernel) (by decide +kernel)
set_option maxRecDepth 20000 in
theorem gX3_setCrop_X3_refused : GoodIn wsX3_setCrop (wsV RX3 86 RX3 yX3_refused wsX3_refused) := goodIn_app (goodIn_of _ (by decide +kernel)) ggX3_setCrop_X3_refused
theorem dX3_setCrop_0 : decode cX3_setCrop 0 = .ok (.aload_n 0, 1) := by decide +kernel
theorem dX3_setCrop_1 : decode cX3_setCrop 1 = .ok (.iload_n 1, 1) := by decide +kernel
theorem dX3_setCrop_2 : decode cX3_setCrop 2 = .ok (.invokestatic 81, 3) := by decide +kernel
theorem dX3_setCrop_5 : decode cX3_setCrop 5 = .ok (.ifCond .ne 7, 3) := by decide +kernel
theorem dX3_setCrop_8 : decode cX3_setCrop 8 = .ok (.iconst 1, 1) := by decide +kernel
theorem dX3_setCrop_9 : decode cX3_setCrop 9 = .ok (.goto 29, 3) := by decide +kernel
theorem dX3_setCrop_12 : decode cX3_setCrop 12 = .ok (.iload_n 2, 1) := by decide +kernel
theorem dX3_setCrop_13 : decode cX3_setCrop 13 = .ok (.iconst 1, 1) := by decide +kernel
theorem dX3_setCrop_14 : decode cX3_setCrop 14 = .ok (.sipush 5000, 3) := by decide +kernel
theorem dX3_setCrop_17 : decode cX3_setCrop 17 = .ok (.invokestatic 74, 3) := by decide +kernel
theorem dX3_setCrop_20 : decode cX3_setCrop 20 = .ok (.ifCond .eq 17, 3) := by decide +kernel
theorem dX3_setCrop_23 : decode cX3_setCrop 23 = .ok (.iload_n 3, 1) := by decide +kernel
theorem dX3_setCrop_24 : decode cX3_setCrop 24 = .ok (.iconst 0, 1) := by decide +kernel
theorem dX3_setCrop_25 : decode cX3_setCrop 25 = .ok (.bipush 100, 2) := by decide +kernel
theorem dX3_setCrop_27 : decode cX3_setCrop 27 = .ok (.invokestatic 74, 3) := by decide +kernel
theorem dX3_setCrop_30 : decode cX3_setCrop 30 = .ok (.ifCond .eq 7, 3) := by decide +kernel
theorem dX3_setCrop_33 : decode cX3_setCrop 33 = .ok (.iconst 0, 1) := by decide +kernel
theorem dX3_setCrop_34 : decode cX3_setCrop 34 = .ok (.goto 4, 3) := by decide +kernel
theorem dX3_setCrop_37 : decode cX3_setCrop 37 = .ok (.iconst 2, 1) := by decide +kernel
theorem dX3_setCrop_38 : decode cX3_setCrop 38 = .ok (.invokevirtual 86, 3) := by decide +kernel
theorem dX3_setCrop_41 : decode cX3_setCrop 41 = .ok (.ifCond .eq 5, 3) := by decide +kernel
theorem dX3_setCrop_44 : decode cX3_setCrop 44 = .ok (.iconst 0, 1) := by decide +kernel
theorem dX3_setCrop_45 : decode cX3_setCrop 45 = .ok (.ireturn, 1) := by decide +kernel
theorem dX3_setCrop_46 : decode cX3_setCrop 46 = .ok (.aload_n 0, 1) := by decide +kernel
theorem dX3_setCrop_47 : decode cX3_setCrop 47 = .ok (.getfield 13, 3) := by decide +kernel
theorem dX3_setCrop_50 : decode cX3_setCrop 50 = .ok (.iload_n 1, 1) := by decide +kernel
theorem dX3_setCrop_51 : decode cX3_setCrop 51 = .ok (.iaload, 1) := by decide +kernel
theorem dX3_setCrop_52 : decode cX3_setCrop 52 = .ok (.istore 4, 2) := by decide +kernel
theorem dX3_setCrop_54 : decode cX3_setCrop 54 = .ok (.aload_n 0, 1) := by decide +kernel
theorem dX3_setCrop_55 : decode cX3_setCrop 55 = .ok (.getfield 13, 3) := by decide +kernel
theorem dX3_setCrop_58 : decode cX3_setCrop 58 = .ok (.iload_n 1, 1) := by decide +kernel
theorem dX3_setCrop_59 : decode cX3_setCrop 59 = .ok (.iload_n 2, 1) := by decide +kernel
theorem dX3_setCrop_60 : decode cX3_setCrop 60 = .ok (.iastore, 1) := by decide +kernel
theorem dX3_setCrop_61 : decode cX3_setCrop 61 = .ok (.aload_n 0, 1) := by decide +kernel
theorem dX3_setCrop_62 : decode cX3_setCrop 62 = .ok (.getfield 16, 3) := by decide +kernel
theorem dX3_setCrop_65 : decode cX3_setCrop 65 = .ok (.iload_n 1, 1) := by decide +kernel
theorem dX3_setCrop_66 : decode cX3_setCrop 66 = .ok (.iload_n 3, 1) := by decide +kernel
theorem dX3_setCrop_67 : decode cX3_setCrop 67 = .ok (.iastore, 1) := by decide +kernel
theorem dX3_setCrop_68 : decode cX3_setCrop 68 = .ok (.iload 4, 2) := by decide +kernel
theorem dX3_setCrop_70 : decode cX3_setCrop 70 = .ok (.ireturn, 1) := by decide +kernel
set_option maxRecDepth 20000 in
theorem ggX3_add_X3_in : GoodIn wsX3_add wsX3_in := goodIn_r _ [6] (by decide +kernel) (by decide +kernel)
set_option maxRecDepth 20000 in
theorem gX3_add_X3_in : GoodIn wsX3_add (va_wsS RX3 74 yX3_in wsX3_in) := goodIn_app (goodIn_of _ (by decide +kernel)) ggX3_add_X3_in
set_option maxRecDepth 20000 in
theorem ggX3_add_X3_refused : GoodIn wsX3_add wsX3_refused := goodIn_r _ [10, 11, 21, 22, 23, 24, 25, 26, 27, 28, 29, 30, 31, 32, 33, 34, 35, 36, 37, 38, 39, 40, 41, 42, 43, 44] (by decide +kernel) (by decide +kernel)
set_option maxRecDepth 20000 in
theorem gX3_add_X3_refused : GoodIn wsX3_add (wsV RX3 86 RX3 yX3_refused wsX3_refused) := goodIn_app (goodIn_of _ (by decide +kernel)) ggX3_add_X3_refused
set_option maxRecDepth 20000 in
theorem ggX3_add_X3_clear : GoodIn wsX3_add wsX3_clear := goodIn_r _ [15, 16, 17, 18, 19, 20, 21, 22, 23, 24, 25, 26, 27, 28, 29, 30, 31, 32, 33, 34, 35, 36, 37, 38, 39, 40, 41, 42, 43, 44] (by decide +kernel) (by decide +kernel)
set_option maxRecDepth 20000 in
theorem gX3_add_X3_clear : GoodIn wsX3_add (wsV RX3 89 RX3 yX3_clear wsX3_clear) := goodIn_app (goodIn_of _ (by decide +kernel)) ggX3_add_X3_clear
theorem dX3_add_0 : decode cX3_add 0 = .ok (.aload_n 0, 1) := by decide +kernel
theorem dX3_add_1 : decode cX3_add 1 = .ok (.iload_n 1, 1) := by decide +kernel
theorem dX3_add_2 : decode cX3_add 2 = .ok (.iconst 0, 1) := by decide +kernel
theorem dX3_add_3 : decode cX3_add 3 = .ok (.iconst 2, 1) := by decide +kernel
theorem dX3_add_4 : decode cX3_add 4 = .ok (.invokestatic 74, 3) := by decide +kernel
theorem dX3_add_7 : decode cX3_add 7 = .ok (.ifCond .ne 7, 3) := by decide +kernel
theorem dX3_add_10 : decode cX3_add 10 = .ok (.iconst 1, 1) := by decide +kernel
theorem dX3_add_11 : decode cX3_add 11 = .ok (.goto 17, 3) := by decide +kernel
theorem dX3_add_14 : decode cX3_add 14 = .ok (.aload_n 0, 1) := by decide +kernel
theorem dX3_add_15 : decode cX3_add 15 = .ok (.getfield 78, 3) := by decide +kernel
theorem dX3_add_18 : decode cX3_add 18 = .ok (.bipush 8, 2) := by decide +kernel
theorem dX3_add_20 : decode cX3_add 20 = .ok (.if_icmp .ne 7, 3) := by decide +kernel
theorem dX3_add_23 : decode cX3_add 23 = .ok (.iconst 2, 1) := by decide +kernel
theorem dX3_add_24 : decode cX3_add 24 = .ok (.goto 4, 3) := by decide +kernel
theorem dX3_add_27 : decode cX3_add 27 = .ok (.iconst 0, 1) := by decide +kernel
theorem dX3_add_28 : decode cX3_add 28 = .ok (.invokevirtual 86, 3) := by decide +kernel
theorem dX3_add_31 : decode cX3_add 31 = .ok (.ifCond .eq 5, 3) := by decide +kernel
theorem dX3_add_34 : decode cX3_add 34 = .ok (.iconst 0, 1) := by decide +kernel
theorem dX3_add_35 : decode cX3_add 35 = .ok (.ireturn, 1) := by decide +kernel
theorem dX3_add_36 : decode cX3_add 36 = .ok (.aload_n 0, 1) := by decide +kernel
theorem dX3_add_37 : decode cX3_add 37 = .ok (.getfield 19, 3) := by decide +kernel
theorem dX3_add_40 : decode cX3_add 40 = .ok (.aload_n 0, 1) := by decide +kernel
theorem dX3_add_41 : decode cX3_add 41 = .ok (.getfield 78, 3) := by decide +kernel
theorem dX3_add_44 : decode cX3_add 44 = .ok (.iload_n 1, 1) := by decide +kernel
theorem dX3_add_45 : decode cX3_add 45 = .ok (.iastore, 1) := by decide +kernel
theorem dX3_add_46 : decode cX3_add 46 = .ok (.aload_n 0, 1) := by decide +kernel
theorem dX3_add_47 : decode cX3_add 47 = .ok (.aload_n 0, 1) := by decide +kernel
theorem dX3_add_48 : decode cX3_add 48 = .ok (.getfield 78, 3) := by decide +kernel
theorem dX3_add_51 : decode cX3_add 51 = .ok (.invokevirtual 89, 3) := by decide +kernel
theorem dX3_add_54 : decode cX3_add 54 = .ok (.aload_n 0, 1) := by decide +kernel
theorem dX3_add_55 : decode cX3_add 55 = .ok (.dup, 1) := by decide +kernel
theorem dX3_add_56 : decode cX3_add 56 = .ok (.getfield 78, 3) := by decide +kernel
theorem dX3_add_59 : decode cX3_add 59 = .ok (.iconst 1, 1) := by decide +kernel
theorem dX3_add_60 : decode cX3_add 60 = .ok (.iadd, 1) := by decide +kernel
theorem dX3_add_61 : decode cX3_add 61 = .ok (.putfield 78, 3) := by decide +kernel
theorem dX3_add_64 : decode cX3_add 64 = .ok (.aload_n 0, 1) := by decide +kernel
theorem dX3_add_65 : decode cX3_add 65 = .ok (.getfield 78, 3) := by decide +kernel
theorem dX3_add_68 : decode cX3_add 68 = .ok (.iconst 1, 1) := by decide +kernel
theorem dX3_add_69 : decode cX3_add 69 = .ok (.isub, 1) := by decide +kernel
theorem dX3_add_70 : decode cX3_add 70 = .ok (.ireturn, 1) := by decide +kernel
theorem dX3_clear_0 : decode cX3_clear 0 = .ok (.aload_n 0, 1) := by decide +kernel
theorem dX3_clear_1 : decode cX3_clear 1 = .ok (.getfield 46, 3) := by decide +kernel
theorem dX3_clear_4 : decode cX3_clear 4 = .ok (.iload_n 1, 1) := by decide +kernel
theorem dX3_clear_5 : decode cX3_clear 5 = .ok (.iconst (-1), 1) := by decide +kernel
theorem dX3_clear_6 : decode cX3_clear 6 = .ok (.iastore, 1) := by decide +kernel
theorem dX3_clear_7 : decode cX3_clear 7 = .ok (.aload_n 0, 1) := by decide +kernel
theorem dX3_clear_8 : decode cX3_clear 8 = .ok (.getfield 49, 3) := by decide +kernel
theorem dX3_clear_11 : decode cX3_clear 11 = .ok (.iload_n 1, 1) := by decide +kernel
theorem dX3_clear_12 : decode cX3_clear 12 = .ok (.iconst 0, 1) := by decide +kernel
theorem dX3_clear_13 : decode cX3_clear 13 = .ok (.iastore, 1) := by decide +kernel
theorem dX3_clear_14 : decode cX3_clear 14 = .ok (.aload_n 0, 1) := by decide +kernel
theorem dX3_clear_15 : decode cX3_clear 15 = .ok (.getfield 52, 3) := by decide +kernel
theorem dX3_clear_18 : decode cX3_clear 18 = .ok (.iload_n 1, 1) := by decide +kernel
theorem dX3_clear_19 : decode cX3_clear 19 = .ok (.iconst 0, 1) := by decide +kernel
theorem dX3_clear_20 : decode cX3_clear 20 = .ok (.iastore, 1) := by decide +kernel
theorem dX3_clear_21 : decode cX3_clear 21 = .ok (.aload_n 0, 1) := by decide +kernel
theorem dX3_clear_22 : decode cX3_clear 22 = .ok (.getfield 55, 3) := by decide +kernel
theorem dX3_clear_25 : decode cX3_clear 25 = .ok (.iload_n 1, 1) := by decide +kernel
theorem dX3_clear_26 : decode cX3_clear 26 = .ok (.iconst 0, 1) := by decide +kernel
theorem dX3_clear_27 : decode cX3_clear 27 = .ok (.iastore, 1) := by decide +kernel
theorem dX3_clear_28 : decode cX3_clear 28 = .ok (.aload_n 0, 1) := by decide +kernel
theorem dX3_clear_29 : decode cX3_clear 29 = .ok (.getfield 58, 3) := by decide +kernel
theorem dX3_clear_32 : decode cX3_clear 32 = .ok (.iload_n 1, 1) := by decide +kernel
theorem dX3_clear_33 : decode cX3_clear 33 = .ok (.bipush 100, 2) := by decide +kernel
theorem dX3_clear_35 : decode cX3_clear 35 = .ok (.iastore, 1) := by decide +kernel
theorem dX3_clear_36 : decode cX3_clear 36 = .ok (.return_, 1) := by decide +kernel
set_option maxRecDepth 20000 in
theorem ggX3_farmers_X3_fine : GoodIn wsX3_farmers wsX3_fine := goodIn_r _ [6, 7, 8, 9, 10, 11, 12, 13, 14, 15, 16, 17, 18, 19, 20, 21, 22, 23, 24, 25, 26, 27, 28, 29, 30, 31] (by decide +kernel) (by decide +kernel)
set_option maxRecDepth 20000 in
theorem gX3_farmers_X3_fine : GoodIn wsX3_farmers (wsV RX3 93 RX3 yX3_fine wsX3_fine) := goodIn_app (goodIn_of _ (by decide +kernel)) ggX3_farmers_X3_fine
theorem dX3_farmers_0 : decode cX3_farmers 0 = .ok (.aload_n 0, 1) := by decide +kernel
theorem dX3_farmers_1 : decode cX3_farmers 1 = .ok (.aload_n 0, 1) := by decide +kernel
theorem dX3_farmers_2 : decode cX3_farmers 2 = .ok (.getfield 78, 3) := by decide +kernel
theorem dX3_farmers_5 : decode cX3_farmers 5 = .ok (.invokevirtual 93, 3) := by decide +kernel
theorem dX3_farmers_8 : decode cX3_farmers 8 = .ok (.ireturn, 1) := by decide +kernel
theorem dX3_lower_0 : decode cX3_lower 0 = .ok (.aload_n 0, 1) := by decide +kernel
theorem dX3_lower_1 : decode cX3_lower 1 = .ok (.getfield 25, 3) := by decide +kernel
theorem dX3_lower_4 : decode cX3_lower 4 = .ok (.iload_n 1, 1) := by decide +kernel
theorem dX3_lower_5 : decode cX3_lower 5 = .ok (.dup2, 1) := by decide +kernel
theorem dX3_lower_6 : decode cX3_lower 6 = .ok (.iaload, 1) := by decide +kernel
theorem dX3_lower_7 : decode cX3_lower 7 = .ok (.iload_n 2, 1) := by decide +kernel
theorem dX3_lower_8 : decode cX3_lower 8 = .ok (.isub, 1) := by decide +kernel
theorem dX3_lower_9 : decode cX3_lower 9 = .ok (.iastore, 1) := by decide +kernel
theorem dX3_lower_10 : decode cX3_lower 10 = .ok (.aload_n 0, 1) := by decide +kernel
theorem dX3_lower_11 : decode cX3_lower 11 = .ok (.getfield 64, 3) := by decide +kernel
theorem dX3_lower_14 : decode cX3_lower 14 = .ok (.iconst 5, 1) := by decide +kernel
theorem dX3_lower_15 : decode cX3_lower 15 = .ok (.iload_n 1, 1) := by decide +kernel
theorem dX3_lower_16 : decode cX3_lower 16 = .ok (.imul, 1) := by decide +kernel
theorem dX3_lower_17 : decode cX3_lower 17 = .ok (.iload_n 3, 1) := by decide +kernel
theorem dX3_lower_18 : decode cX3_lower 18 = .ok (.iadd, 1) := by decide +kernel
theorem dX3_lower_19 : decode cX3_lower 19 = .ok (.dup2, 1) := by decide +kernel
theorem dX3_lower_20 : decode cX3_lower 20 = .ok (.iaload, 1) := by decide +kernel
theorem dX3_lower_21 : decode cX3_lower 21 = .ok (.iload_n 2, 1) := by decide +kernel
theorem dX3_lower_22 : decode cX3_lower 22 = .ok (.iadd, 1) := by decide +kernel
theorem dX3_lower_23 : decode cX3_lower 23 = .ok (.iastore, 1) := by decide +kernel
theorem dX3_lower_24 : decode cX3_lower 24 = .ok (.return_, 1) := by decide +kernel
set_option maxRecDepth 20000 in
theorem ggX3_come_X3_lower : GoodIn wsX3_come wsX3_lower := goodIn_r _ [7, 1, 8, 9, 10, 11, 12, 13, 14, 15, 16, 17, 18, 19, 20, 21, 22, 23, 24, 25, 26, 27, 28, 29, 30, 31, 32] (by decide +kernel) (by decide +kernel)
set_option maxRecDepth 20000 in
theorem gX3_come_X3_lower : GoodIn wsX3_come (wsV RX3 97 RX3 yX3_lower wsX3_lower) := goodIn_app (goodIn_of _ (by decide +kernel)) ggX3_come_X3_lower
theorem dX3_come_0 : decode cX3_come 0 = .ok (.iload_n 2, 1) := by decide +kernel
theorem dX3_come_1 : decode cX3_come 1 = .ok (.aload_n 0, 1) := by decide +kernel
theorem dX3_come_2 : decode cX3_come 2 = .ok (.getfield 25, 3) := by decide +kernel
theorem dX3_come_5 : decode cX3_come 5 = .ok (.iload_n 1, 1) := by decide +kernel
theorem dX3_come_6 : decode cX3_come 6 = .ok (.iaload, 1) := by decide +kernel
theorem dX3_come_7 : decode cX3_come 7 = .ok (.if_icmp .ge 7, 3) := by decide +kernel
theorem dX3_come_10 : decode cX3_come 10 = .ok (.iload_n 2, 1) := by decide +kernel
theorem dX3_come_11 : decode cX3_come 11 = .ok (.goto 9, 3) := by decide +kernel
theorem dX3_come_14 : decode cX3_come 14 = .ok (.aload_n 0, 1) := by decide +kernel
theorem dX3_come_15 : decode cX3_come 15 = .ok (.getfield 25, 3) := by decide +kernel
theorem dX3_come_18 : decode cX3_come 18 = .ok (.iload_n 1, 1) := by decide +kernel
theorem dX3_come_19 : decode cX3_come 19 = .ok (.iaload, 1) := by decide +kernel
theorem dX3_come_20 : decode cX3_come 20 = .ok (.istore 4, 2) := by decide +kernel
theorem dX3_come_22 : decode cX3_come 22 = .ok (.aload_n 0, 1) := by decide +kernel
theorem dX3_come_23 : decode cX3_come 23 = .ok (.iload_n 1, 1) := by decide +kernel
theorem dX3_come_24 : decode cX3_come 24 = .ok (.iload 4, 2) := by decide +kernel
theorem dX3_come_26 : decode cX3_come 26 = .ok (.iload_n 3, 1) := by decide +kernel
theorem dX3_come_27 : decode cX3_come 27 = .ok (.invokevirtual 97, 3) := by decide +kernel
theorem dX3_come_30 : decode cX3_come 30 = .ok (.aload_n 0, 1) := by decide +kernel
theorem dX3_come_31 : decode cX3_come 31 = .ok (.getfield 22, 3) := by decide +kernel
theorem dX3_come_34 : decode cX3_come 34 = .ok (.iload_n 1, 1) := by decide +kernel
theorem dX3_come_35 : decode cX3_come 35 = .ok (.dup2, 1) := by decide +kernel
theorem dX3_come_36 : decode cX3_come 36 = .ok (.iaload, 1) := by decide +kernel
theorem dX3_come_37 : decode cX3_come 37 = .ok (.iload_n 2, 1) := by decide +kernel
theorem dX3_come_38 : decode cX3_come 38 = .ok (.iload 4, 2) := by decide +kernel
theorem dX3_come_40 : decode cX3_come 40 = .ok (.isub, 1) := by decide +kernel
theorem dX3_come_41 : decode cX3_come 41 = .ok (.iadd, 1) := by decide +kernel
theorem dX3_come_42 : decode cX3_come 42 = .ok (.iastore, 1) := by decide +kernel
theorem dX3_come_43 : decode cX3_come 43 = .ok (.return_, 1) := by decide +kernel
theorem dX3_charge_0 : decode cX3_charge 0 = .ok (.aload_n 0, 1) := by decide +kernel
theorem dX3_charge_1 : decode cX3_charge 1 = .ok (.getfield 25, 3) := by decide +kernel
theorem dX3_charge_4 : decode cX3_charge 4 = .ok (.iload_n 1, 1) := by decide +kernel
theorem dX3_charge_5 : decode cX3_charge 5 = .ok (.dup2, 1) := by decide +kernel
theorem dX3_charge_6 : decode cX3_charge 6 = .ok (.iaload, 1) := by decide +kernel
theorem dX3_charge_7 : decode cX3_charge 7 = .ok (.iload_n 2, 1) := by decide +kernel
theorem dX3_charge_8 : decode cX3_charge 8 = .ok (.iadd, 1) := by decide +kernel
theorem dX3_charge_9 : decode cX3_charge 9 = .ok (.iastore, 1) := by decide +kernel
theorem dX3_charge_10 : decode cX3_charge 10 = .ok (.aload_n 0, 1) := by decide +kernel
theorem dX3_charge_11 : decode cX3_charge 11 = .ok (.getfield 67, 3) := by decide +kernel
theorem dX3_charge_14 : decode cX3_charge 14 = .ok (.iload_n 1, 1) := by decide +kernel
theorem dX3_charge_15 : decode cX3_charge 15 = .ok (.dup2, 1) := by decide +kernel
theorem dX3_charge_16 : decode cX3_charge 16 = .ok (.iaload, 1) := by decide +kernel
theorem dX3_charge_17 : decode cX3_charge 17 = .ok (.iload_n 2, 1) := by decide +kernel
theorem dX3_charge_18 : decode cX3_charge 18 = .ok (.iadd, 1) := by decide +kernel
theorem dX3_charge_19 : decode cX3_charge 19 = .ok (.iastore, 1) := by decide +kernel
theorem dX3_charge_20 : decode cX3_charge 20 = .ok (.return_, 1) := by decide +kernel
theorem dX3_limitOf_0 : decode cX3_limitOf 0 = .ok (.iconst 0, 1) := by decide +kernel
theorem dX3_limitOf_1 : decode cX3_limitOf 1 = .ok (.istore_n 2, 1) := by decide +kernel
theorem dX3_limitOf_2 : decode cX3_limitOf 2 = .ok (.iconst 0, 1) := by decide +kernel
theorem dX3_limitOf_3 : decode cX3_limitOf 3 = .ok (.istore_n 3, 1) := by decide +kernel
theorem dX3_limitOf_4 : decode cX3_limitOf 4 = .ok (.iload_n 3, 1) := by decide +kernel
theorem dX3_limitOf_5 : decode cX3_limitOf 5 = .ok (.aload_n 0, 1) := by decide +kernel
theorem dX3_limitOf_6 : decode cX3_limitOf 6 = .ok (.getfield 101, 3) := by decide +kernel
theorem dX3_limitOf_9 : decode cX3_limitOf 9 = .ok (.if_icmp .gt 42, 3) := by decide +kernel
theorem dX3_limitOf_12 : decode cX3_limitOf 12 = .ok (.iload_n 3, 1) := by decide +kernel
theorem dX3_limitOf_13 : decode cX3_limitOf 13 = .ok (.iconst 4, 1) := by decide +kernel
theorem dX3_limitOf_14 : decode cX3_limitOf 14 = .ok (.if_icmp .ge 37, 3) := by decide +kernel
theorem dX3_limitOf_17 : decode cX3_limitOf 17 = .ok (.aload_n 0, 1) := by decide +kernel
theorem dX3_limitOf_18 : decode cX3_limitOf 18 = .ok (.getfield 46, 3) := by decide +kernel
theorem dX3_limitOf_21 : decode cX3_limitOf 21 = .ok (.iload_n 1, 1) := by decide +kernel
theorem dX3_limitOf_22 : decode cX3_limitOf 22 = .ok (.iaload, 1) := by decide +kernel
theorem dX3_limitOf_23 : decode cX3_limitOf 23 = .ok (.iconst (-1), 1) := by decide +kernel
theorem dX3_limitOf_24 : decode cX3_limitOf 24 = .ok (.if_icmp .eq 27, 3) := by decide +kernel
theorem dX3_limitOf_27 : decode cX3_limitOf 27 = .ok (.iload_n 2, 1) := by decide +kernel
theorem dX3_limitOf_28 : decode cX3_limitOf 28 = .ok (.aload_n 0, 1) := by decide +kernel
theorem dX3_limitOf_29 : decode cX3_limitOf 29 = .ok (.getfield 7, 3) := by decide +kernel
theorem dX3_limitOf_32 : decode cX3_limitOf 32 = .ok (.iconst 4, 1) := by decide +kernel
theorem dX3_limitOf_33 : decode cX3_limitOf 33 = .ok (.aload_n 0, 1) := by decide +kernel
theorem dX3_limitOf_34 : decode cX3_limitOf 34 = .ok (.getfield 46, 3) := by decide +kernel
theorem dX3_limitOf_37 : decode cX3_limitOf 37 = .ok (.iload_n 1, 1) := by decide +kernel
theorem dX3_limitOf_38 : decode cX3_limitOf 38 = .ok (.iaload, 1) := by decide +kernel
theorem dX3_limitOf_39 : decode cX3_limitOf 39 = .ok (.imul, 1) := by decide +kernel
theorem dX3_limitOf_40 : decode cX3_limitOf 40 = .ok (.iload_n 3, 1) := by decide +kernel
theorem dX3_limitOf_41 : decode cX3_limitOf 41 = .ok (.iadd, 1) := by decide +kernel
theorem dX3_limitOf_42 : decode cX3_limitOf 42 = .ok (.iaload, 1) := by decide +kernel
theorem dX3_limitOf_43 : decode cX3_limitOf 43 = .ok (.iadd, 1) := by decide +kernel
theorem dX3_limitOf_44 : decode cX3_limitOf 44 = .ok (.istore_n 2, 1) := by decide +kernel
theorem dX3_limitOf_45 : decode cX3_limitOf 45 = .ok (.iinc 3 1, 3) := by decide +kernel
theorem dX3_limitOf_48 : decode cX3_limitOf 48 = .ok (.goto (-44), 3) := by decide +kernel
theorem dX3_limitOf_51 : decode cX3_limitOf 51 = .ok (.iload_n 2, 1) := by decide +kernel
theorem dX3_limitOf_52 : decode cX3_limitOf 52 = .ok (.aload_n 0, 1) := by decide +kernel
theorem dX3_limitOf_53 : decode cX3_limitOf 53 = .ok (.getfield 49, 3) := by decide +kernel
theorem dX3_limitOf_56 : decode cX3_limitOf 56 = .ok (.iload_n 1, 1) := by decide +kernel
theorem dX3_limitOf_57 : decode cX3_limitOf 57 = .ok (.iaload, 1) := by decide +kernel
theorem dX3_limitOf_58 : decode cX3_limitOf 58 = .ok (.imul, 1) := by decide +kernel
theorem dX3_limitOf_59 : decode cX3_limitOf 59 = .ok (.ireturn, 1) := by decide +kernel
set_option maxRecDepth 20000 in
theorem ggX3_plant_X3_isFarmer : GoodIn wsX3_plant wsX3_isFarmer := goodIn_r _ [10, 11, 12, 13, 9, 14, 28, 29, 30, 31, 32, 33, 34, 35, 36, 37, 38, 39, 40, 41, 42, 43, 44, 45, 46, 47, 48, 49, 50, 51] (by decide +kernel) (by decide +kernel)
set_option maxRecDepth 20000 in
theorem gX3_plant_X3_isFarmer : GoodIn wsX3_plant (wsV RX3 104 RX3 yX3_isFarmer wsX3_isFarmer) := goodIn_app (goodIn_of _ (by decide +kernel)) ggX3_plant_X3_isFarmer
set_option maxRecDepth 20000 in
theorem ggX3_plant_X3_isCrop : GoodIn wsX3_plant wsX3_isCrop := goodIn_r _ [17, 12, 13, 9, 14] (by decide +kernel) (by decide +kernel)
set_option maxRecDepth 20000 in
theorem gX3_plant_X3_isCrop : GoodIn wsX3_plant (va_wsS RX3 81 yX3_isCrop wsX3_isCrop) := goodIn_app (goodIn_of _ (by decide +kernel)) ggX3_plant_X3_isCrop
set_option maxRecDepth 20000 in
theorem ggX3_plant_X3_in : GoodIn wsX3_plant wsX3_in := goodIn_r _ [14] (by decide +kernel) (by decide +kernel)
set_option maxRecDepth 20000 in
theorem gX3_plant_X3_in : GoodIn wsX3_plant (va_wsS RX3 74 yX3_in wsX3_in) := goodIn_app (goodIn_of _ (by decide +kernel)) ggX3_plant_X3_in
set_option maxRecDepth 20000 in
theorem ggX3_plant_X3_refused : GoodIn wsX3_plant wsX3_refused := goodIn_r _ [21, 22, 28, 29, 30, 31, 32, 33, 34, 35, 36, 37, 38, 39, 40, 41, 42, 43, 44, 45, 46, 47, 48, 49, 50, 51] (by decide +kernel) (by decide +kernel)
set_option maxRecDepth 20000 in
theorem gX3_plant_X3_refused : GoodIn wsX3_plant (wsV RX3 86 RX3 yX3_refused wsX3_refused) := goodIn_app (goodIn_of _ (by decide +kernel)) ggX3_plant_X3_refused
set_option maxRecDepth 20000 in
theorem ggX3_plant_X3_limitOf : GoodIn wsX3_plant wsX3_limitOf := goodIn_r _ [26, 1, 2, 27, 5, 28, 29, 30, 31, 32, 33, 34, 35, 36, 37, 38, 39, 40, 41, 42, 43, 44, 45, 46, 47, 48, 49, 50, 51] (by decide +kernel) (by decide +kernel)
set_option maxRecDepth 20000 in
theorem gX3_plant_X3_limitOf : GoodIn wsX3_plant (wsV RX3 107 RX3 yX3_limitOf wsX3_limitOf) := goodIn_app (goodIn_of _ (by decide +kernel)) ggX3_plant_X3_limitOf
theorem dX3_plant_0 : decode cX3_plant 0 = .ok (.aload_n 0, 1) := by decide +kernel
theorem dX3_plant_1 : decode cX3_plant 1 = .ok (.iload_n 1, 1) := by decide +kernel
theorem dX3_plant_2 : decode cX3_plant 2 = .ok (.invokevirtual 104, 3) := by decide +kernel
theorem dX3_plant_5 : decode cX3_plant 5 = .ok (.ifCond .eq 14, 3) := by decide +kernel
theorem dX3_plant_8 : decode cX3_plant 8 = .ok (.iload_n 2, 1) := by decide +kernel
theorem dX3_plant_9 : decode cX3_plant 9 = .ok (.invokestatic 81, 3) := by decide +kernel
theorem dX3_plant_12 : decode cX3_plant 12 = .ok (.ifCond .eq 7, 3) := by decide +kernel
theorem dX3_plant_15 : decode cX3_plant 15 = .ok (.iconst 1, 1) := by decide +kernel
theorem dX3_plant_16 : decode cX3_plant 16 = .ok (.goto 4, 3) := by decide +kernel
theorem dX3_plant_19 : decode cX3_plant 19 = .ok (.iconst 0, 1) := by decide +kernel
theorem dX3_plant_20 : decode cX3_plant 20 = .ok (.istore 4, 2) := by decide +kernel
theorem dX3_plant_22 : decode cX3_plant 22 = .ok (.iload 4, 2) := by decide +kernel
theorem dX3_plant_24 : decode cX3_plant 24 = .ok (.ifCond .eq 43, 3) := by decide +kernel
theorem dX3_plant_27 : decode cX3_plant 27 = .ok (.aload_n 0, 1) := by decide +kernel
theorem dX3_plant_28 : decode cX3_plant 28 = .ok (.getfield 101, 3) := by decide +kernel
theorem dX3_plant_31 : decode cX3_plant 31 = .ok (.ifCond .ne 36, 3) := by decide +kernel
theorem dX3_plant_34 : decode cX3_plant 34 = .ok (.aload_n 0, 1) := by decide +kernel
theorem dX3_plant_35 : decode cX3_plant 35 = .ok (.getfield 46, 3) := by decide +kernel
theorem dX3_plant_38 : decode cX3_plant 38 = .ok (.iload_n 1, 1) := by decide +kernel
theorem dX3_plant_39 : decode cX3_plant 39 = .ok (.iaload, 1) := by decide +kernel
theorem dX3_plant_40 : decode cX3_plant 40 = .ok (.iconst (-1), 1) := by decide +kernel
theorem dX3_plant_41 : decode cX3_plant 41 = .ok (.if_icmp .ne 26, 3) := by decide +kernel
theorem dX3_plant_44 : decode cX3_plant 44 = .ok (.aload_n 0, 1) := by decide +kernel
theorem dX3_plant_45 : decode cX3_plant 45 = .ok (.getfield 31, 3) := by decide +kernel
theorem dX3_plant_48 : decode cX3_plant 48 = .ok (.iload_n 1, 1) := by decide +kernel
theorem dX3_plant_49 : decode cX3_plant 49 = .ok (.iaload, 1) := by decide +kernel
theorem dX3_plant_50 : decode cX3_plant 50 = .ok (.ifCond .eq 13, 3) := by decide +kernel
theorem dX3_plant_53 : decode cX3_plant 53 = .ok (.aload_n 0, 1) := by decide +kernel
theorem dX3_plant_54 : decode cX3_plant 54 = .ok (.getfield 28, 3) := by decide +kernel
theorem dX3_plant_57 : decode cX3_plant 57 = .ok (.iload_n 1, 1) := by decide +kernel
theorem dX3_plant_58 : decode cX3_plant 58 = .ok (.iaload, 1) := by decide +kernel
theorem dX3_plant_59 : decode cX3_plant 59 = .ok (.iload_n 2, 1) := by decide +kernel
theorem dX3_plant_60 : decode cX3_plant 60 = .ok (.if_icmp .ne 7, 3) := by decide +kernel
theorem dX3_plant_63 : decode cX3_plant 63 = .ok (.iconst 1, 1) := by decide +kernel
theorem dX3_plant_64 : decode cX3_plant 64 = .ok (.goto 4, 3) := by decide +kernel
theorem dX3_plant_67 : decode cX3_plant 67 = .ok (.iconst 0, 1) := by decide +kernel
theorem dX3_plant_68 : decode cX3_plant 68 = .ok (.istore 5, 2) := by decide +kernel
theorem dX3_plant_70 : decode cX3_plant 70 = .ok (.aload_n 0, 1) := by decide +kernel
theorem dX3_plant_71 : decode cX3_plant 71 = .ok (.iload 4, 2) := by decide +kernel
theorem dX3_plant_73 : decode cX3_plant 73 = .ok (.ifCond .ne 7, 3) := by decide +kernel
theorem dX3_plant_76 : decode cX3_plant 76 = .ok (.iconst 1, 1) := by decide +kernel
theorem dX3_plant_77 : decode cX3_plant 77 = .ok (.goto 27, 3) := by decide +kernel
theorem dX3_plant_80 : decode cX3_plant 80 = .ok (.iload_n 3, 1) := by decide +kernel
theorem dX3_plant_81 : decode cX3_plant 81 = .ok (.iconst 1, 1) := by decide +kernel
theorem dX3_plant_82 : decode cX3_plant 82 = .ok (.bipush 50, 2) := by decide +kernel
theorem dX3_plant_84 : decode cX3_plant 84 = .ok (.invokestatic 74, 3) := by decide +kernel
theorem dX3_plant_87 : decode cX3_plant 87 = .ok (.ifCond .ne 7, 3) := by decide +kernel
theorem dX3_plant_90 : decode cX3_plant 90 = .ok (.iconst 2, 1) := by decide +kernel
theorem dX3_plant_91 : decode cX3_plant 91 = .ok (.goto 13, 3) := by decide +kernel
theorem dX3_plant_94 : decode cX3_plant 94 = .ok (.iload 5, 2) := by decide +kernel
theorem dX3_plant_96 : decode cX3_plant 96 = .ok (.ifCond .eq 7, 3) := by decide +kernel
theorem dX3_plant_99 : decode cX3_plant 99 = .ok (.iconst 0, 1) := by decide +kernel
theorem dX3_plant_100 : decode cX3_plant 100 = .ok (.goto 4, 3) := by decide +kernel
theorem dX3_plant_103 : decode cX3_plant 103 = .ok (.iconst 3, 1) := by decide +kernel
theorem dX3_plant_104 : decode cX3_plant 104 = .ok (.invokevirtual 86, 3) := by decide +kernel
theorem dX3_plant_107 : decode cX3_plant 107 = .ok (.ifCond .eq 5, 3) := by decide +kernel
theorem dX3_plant_110 : decode cX3_plant 110 = .ok (.iconst 0, 1) := by decide +kernel
theorem dX3_plant_111 : decode cX3_plant 111 = .ok (.ireturn, 1) := by decide +kernel
theorem dX3_plant_112 : decode cX3_plant 112 = .ok (.aload_n 0, 1) := by decide +kernel
theorem dX3_plant_113 : decode cX3_plant 113 = .ok (.getfield 46, 3) := by decide +kernel
theorem dX3_plant_116 : decode cX3_plant 116 = .ok (.iload_n 1, 1) := by decide +kernel
theorem dX3_plant_117 : decode cX3_plant 117 = .ok (.iload_n 2, 1) := by decide +kernel
theorem dX3_plant_118 : decode cX3_plant 118 = .ok (.iastore, 1) := by decide +kernel
theorem dX3_plant_119 : decode cX3_plant 119 = .ok (.aload_n 0, 1) := by decide +kernel
theorem dX3_plant_120 : decode cX3_plant 120 = .ok (.getfield 49, 3) := by decide +kernel
theorem dX3_plant_123 : decode cX3_plant 123 = .ok (.iload_n 1, 1) := by decide +kernel
theorem dX3_plant_124 : decode cX3_plant 124 = .ok (.iload_n 3, 1) := by decide +kernel
theorem dX3_plant_125 : decode cX3_plant 125 = .ok (.iastore, 1) := by decide +kernel
theorem dX3_plant_126 : decode cX3_plant 126 = .ok (.aload_n 0, 1) := by decide +kernel
theorem dX3_plant_127 : decode cX3_plant 127 = .ok (.iload_n 1, 1) := by decide +kernel
theorem dX3_plant_128 : decode cX3_plant 128 = .ok (.invokevirtual 107, 3) := by decide +kernel
theorem dX3_plant_131 : decode cX3_plant 131 = .ok (.ireturn, 1) := by decide +kernel
set_option maxRecDepth 20000 in
theorem ggX3_cover_X3_isFarmer : GoodIn wsX3_cover wsX3_isFarmer := goodIn_r _ [8, 9, 10, 11, 7, 12, 18, 19, 20, 21, 22, 23, 24, 25, 26, 27, 28, 29, 30, 31, 32, 33, 34, 35, 36, 37, 38, 39, 40, 41] (by decide +kernel) (by decide +kernel)
set_option maxRecDepth 20000 in
theorem gX3_cover_X3_isFarmer : GoodIn wsX3_cover (wsV RX3 104 RX3 yX3_isFarmer wsX3_isFarmer) := goodIn_app (goodIn_of _ (by decide +kernel)) ggX3_cover_X3_isFarmer
set_option maxRecDepth 20000 in
theorem ggX3_cover_X3_in : GoodIn wsX3_cover wsX3_in := goodIn_r _ [12] (by decide +kernel) (by decide +kernel)
set_option maxRecDepth 20000 in
theorem gX3_cover_X3_in : GoodIn wsX3_cover (va_wsS RX3 74 yX3_in wsX3_in) := goodIn_app (goodIn_of _ (by decide +kernel)) ggX3_cover_X3_in
set_option maxRecDepth 20000 in
theorem ggX3_cover_X3_refused : GoodIn wsX3_cover wsX3_refused := goodIn_r _ [16, 17, 18, 19, 20, 21, 22, 23, 24, 25, 26, 27, 28, 29, 30, 31, 32, 33, 34, 35, 36, 37, 38, 39, 40, 41] (by decide +kernel) (by decide +kernel)
set_option maxRecDepth 20000 in
theorem gX3_cover_X3_refused : GoodIn wsX3_cover (wsV RX3 86 RX3 yX3_refused wsX3_refused) := goodIn_app (goodIn_of _ (by decide +kernel)) ggX3_cover_X3_refused
theorem dX3_cover_0 : decode cX3_cover 0 = .ok (.aload_n 0, 1) := by decide +kernel
theorem dX3_cover_1 : decode cX3_cover 1 = .ok (.iload_n 1, 1) := by decide +kernel
theorem dX3_cover_2 : decode cX3_cover 2 = .ok (.invokevirtual 104, 3) := by decide +kernel
theorem dX3_cover_5 : decode cX3_cover 5 = .ok (.ifCond .eq 24, 3) := by decide +kernel
theorem dX3_cover_8 : decode cX3_cover 8 = .ok (.aload_n 0, 1) := by decide +kernel
theorem dX3_cover_9 : decode cX3_cover 9 = .ok (.getfield 101, 3) := by decide +kernel
theorem dX3_cover_12 : decode cX3_cover 12 = .ok (.ifCond .ne 17, 3) := by decide +kernel
theorem dX3_cover_15 : decode cX3_cover 15 = .ok (.aload_n 0, 1) := by decide +kernel
theorem dX3_cover_16 : decode cX3_cover 16 = .ok (.getfield 46, 3) := by decide +kernel
theorem dX3_cover_19 : decode cX3_cover 19 = .ok (.iload_n 1, 1) := by decide +kernel
theorem dX3_cover_20 : decode cX3_cover 20 = .ok (.iaload, 1) := by decide +kernel
theorem dX3_cover_21 : decode cX3_cover 21 = .ok (.iconst (-1), 1) := by decide +kernel
theorem dX3_cover_22 : decode cX3_cover 22 = .ok (.if_icmp .eq 7, 3) := by decide +kernel
theorem dX3_cover_25 : decode cX3_cover 25 = .ok (.iconst 1, 1) := by decide +kernel
theorem dX3_cover_26 : decode cX3_cover 26 = .ok (.goto 4, 3) := by decide +kernel
theorem dX3_cover_29 : decode cX3_cover 29 = .ok (.iconst 0, 1) := by decide +kernel
theorem dX3_cover_30 : decode cX3_cover 30 = .ok (.istore_n 3, 1) := by decide +kernel
theorem dX3_cover_31 : decode cX3_cover 31 = .ok (.aload_n 0, 1) := by decide +kernel
theorem dX3_cover_32 : decode cX3_cover 32 = .ok (.aload_n 0, 1) := by decide +kernel
theorem dX3_cover_33 : decode cX3_cover 33 = .ok (.iload_n 1, 1) := by decide +kernel
theorem dX3_cover_34 : decode cX3_cover 34 = .ok (.invokevirtual 104, 3) := by decide +kernel
theorem dX3_cover_37 : decode cX3_cover 37 = .ok (.ifCond .ne 7, 3) := by decide +kernel
theorem dX3_cover_40 : decode cX3_cover 40 = .ok (.iconst 1, 1) := by decide +kernel
theorem dX3_cover_41 : decode cX3_cover 41 = .ok (.goto 26, 3) := by decide +kernel
theorem dX3_cover_44 : decode cX3_cover 44 = .ok (.iload_n 2, 1) := by decide +kernel
theorem dX3_cover_45 : decode cX3_cover 45 = .ok (.iconst 1, 1) := by decide +kernel
theorem dX3_cover_46 : decode cX3_cover 46 = .ok (.bipush 90, 2) := by decide +kernel
theorem dX3_cover_48 : decode cX3_cover 48 = .ok (.invokestatic 74, 3) := by decide +kernel
theorem dX3_cover_51 : decode cX3_cover 51 = .ok (.ifCond .ne 7, 3) := by decide +kernel
theorem dX3_cover_54 : decode cX3_cover 54 = .ok (.iconst 2, 1) := by decide +kernel
theorem dX3_cover_55 : decode cX3_cover 55 = .ok (.goto 12, 3) := by decide +kernel
theorem dX3_cover_58 : decode cX3_cover 58 = .ok (.iload_n 3, 1) := by decide +kernel
theorem dX3_cover_59 : decode cX3_cover 59 = .ok (.ifCond .eq 7, 3) := by decide +kernel
theorem dX3_cover_62 : decode cX3_cover 62 = .ok (.iconst 0, 1) := by decide +kernel
theorem dX3_cover_63 : decode cX3_cover 63 = .ok (.goto 4, 3) := by decide +kernel
theorem dX3_cover_66 : decode cX3_cover 66 = .ok (.iconst 3, 1) := by decide +kernel
theorem dX3_cover_67 : decode cX3_cover 67 = .ok (.invokevirtual 86, 3) := by decide +kernel
theorem dX3_cover_70 : decode cX3_cover 70 = .ok (.ifCond .eq 5, 3) := by decide +kernel
theorem dX3_cover_73 : decode cX3_cover 73 = .ok (.iconst 0, 1) := by decide +kernel
theorem dX3_cover_74 : decode cX3_cover 74 = .ok (.ireturn, 1) := by decide +kernel
theorem dX3_cover_75 : decode cX3_cover 75 = .ok (.aload_n 0, 1) := by decide +kernel
theorem dX3_cover_76 : decode cX3_cover 76 = .ok (.getfield 55, 3) := by decide +kernel
theorem dX3_cover_79 : decode cX3_cover 79 = .ok (.iload_n 1, 1) := by decide +kernel
theorem dX3_cover_80 : decode cX3_cover 80 = .ok (.iaload, 1) := by decide +kernel
theorem dX3_cover_81 : decode cX3_cover 81 = .ok (.istore 4, 2) := by decide +kernel
theorem dX3_cover_83 : decode cX3_cover 83 = .ok (.aload_n 0, 1) := by decide +kernel
theorem dX3_cover_84 : decode cX3_cover 84 = .ok (.getfield 55, 3) := by decide +kernel
theorem dX3_cover_87 : decode cX3_cover 87 = .ok (.iload_n 1, 1) := by decide +kernel
theorem dX3_cover_88 : decode cX3_cover 88 = .ok (.iload_n 2, 1) := by decide +kernel
theorem dX3_cover_89 : decode cX3_cover 89 = .ok (.iastore, 1) := by decide +kernel
theorem dX3_cover_90 : decode cX3_cover 90 = .ok (.iload 4, 2) := by decide +kernel
theorem dX3_cover_92 : decode cX3_cover 92 = .ok (.ireturn, 1) := by decide +kernel
set_option maxRecDepth 20000 in
theorem ggX3_draw_X3_isFarmer : GoodIn wsX3_draw wsX3_isFarmer := goodIn_r _ [8, 9, 10, 11, 7, 12, 31, 32, 33, 34, 35, 36, 37, 38, 39, 40, 41, 42, 43, 44, 45, 46, 47, 48, 49, 50, 51, 52, 53, 54] (by decide +kernel) (by decide +kernel)
set_option maxRecDepth 20000 in
theorem gX3_draw_X3_isFarmer : GoodIn wsX3_draw (wsV RX3 104 RX3 yX3_isFarmer wsX3_isFarmer) := goodIn_app (goodIn_of _ (by decide +kernel)) ggX3_draw_X3_isFarmer
set_option maxRecDepth 20000 in
theorem ggX3_draw_X3_in : GoodIn wsX3_draw wsX3_in := goodIn_r _ [12] (by decide +kernel) (by decide +kernel)
set_option maxRecDepth 20000 in
theorem gX3_draw_X3_in : GoodIn wsX3_draw (va_wsS RX3 74 yX3_in wsX3_in) := goodIn_app (goodIn_of _ (by decide +kernel)) ggX3_draw_X3_in
set_option maxRecDepth 20000 in
theorem ggX3_draw_X3_limitOf : GoodIn wsX3_draw wsX3_limitOf := goodIn_r _ [16, 2, 17, 18, 19, 31, 32, 33, 34, 35, 36, 37, 38, 39, 40, 41, 42, 43, 44, 45, 46, 47, 48, 49, 50, 51, 52, 53, 54] (by decide +kernel) (by decide +kernel)
set_option maxRecDepth 20000 in
theorem gX3_draw_X3_limitOf : GoodIn wsX3_draw (wsV RX3 107 RX3 yX3_limitOf wsX3_limitOf) := goodIn_app (goodIn_of _ (by decide +kernel)) ggX3_draw_X3_limitOf
set_option maxRecDepth 20000 in
theorem ggX3_draw_X3_refused : GoodIn wsX3_draw wsX3_refused := goodIn_r _ [23, 24, 31, 32, 33, 34, 35, 36, 37, 38, 39, 40, 41, 42, 43, 44, 45, 46, 47, 48, 49, 50, 51, 52, 53, 54] (by decide +kernel) (by decide +kernel)
set_option maxRecDepth 20000 in
theorem gX3_draw_X3_refused : GoodIn wsX3_draw (wsV RX3 86 RX3 yX3_refused wsX3_refused) := goodIn_app (goodIn_of _ (by decide +kernel)) ggX3_draw_X3_refused
set_option maxRecDepth 20000 in
theorem ggX3_draw_X3_charge : GoodIn wsX3_draw wsX3_charge := goodIn_r _ [28, 29, 30, 31, 32, 33, 34, 35, 36, 37, 38, 39, 40, 41, 42, 43, 44, 45, 46, 47, 48, 49, 50, 51, 52, 53, 54] (by decide +kernel) (by decide +kernel)
set_option maxRecDepth 20000 in
theorem gX3_draw_X3_charge : GoodIn wsX3_draw (wsV RX3 111 RX3 yX3_charge wsX3_charge) := goodIn_app (goodIn_of _ (by decide +kernel)) ggX3_draw_X3_charge
theorem dX3_draw_0 : decode cX3_draw 0 = .ok (.aload_n 0, 1) := by decide +kernel
theorem dX3_draw_1 : decode cX3_draw 1 = .ok (.iload_n 1, 1) := by decide +kernel
theorem dX3_draw_2 : decode cX3_draw 2 = .ok (.invokevirtual 104, 3) := by decide +kernel
theorem dX3_draw_5 : decode cX3_draw 5 = .ok (.ifCond .eq 17, 3) := by decide +kernel
theorem dX3_draw_8 : decode cX3_draw 8 = .ok (.iload_n 2, 1) := by decide +kernel
theorem dX3_draw_9 : decode cX3_draw 9 = .ok (.iconst 1, 1) := by decide +kernel
theorem dX3_draw_10 : decode cX3_draw 10 = .ok (.ldc 110, 2) := by decide +kernel
theorem dX3_draw_12 : decode cX3_draw 12 = .ok (.invokestatic 74, 3) := by decide +kernel
theorem dX3_draw_15 : decode cX3_draw 15 = .ok (.ifCond .eq 7, 3) := by decide +kernel
theorem dX3_draw_18 : decode cX3_draw 18 = .ok (.iconst 1, 1) := by decide +kernel
theorem dX3_draw_19 : decode cX3_draw 19 = .ok (.goto 4, 3) := by decide +kernel
theorem dX3_draw_22 : decode cX3_draw 22 = .ok (.iconst 0, 1) := by decide +kernel
theorem dX3_draw_23 : decode cX3_draw 23 = .ok (.istore_n 3, 1) := by decide +kernel
theorem dX3_draw_24 : decode cX3_draw 24 = .ok (.iload_n 3, 1) := by decide +kernel
theorem dX3_draw_25 : decode cX3_draw 25 = .ok (.ifCond .eq 31, 3) := by decide +kernel
theorem dX3_draw_28 : decode cX3_draw 28 = .ok (.aload_n 0, 1) := by decide +kernel
theorem dX3_draw_29 : decode cX3_draw 29 = .ok (.getfield 101, 3) := by decide +kernel
theorem dX3_draw_32 : decode cX3_draw 32 = .ok (.iconst 4, 1) := by decide +kernel
theorem dX3_draw_33 : decode cX3_draw 33 = .ok (.if_icmp .ge 23, 3) := by decide +kernel
theorem dX3_draw_36 : decode cX3_draw 36 = .ok (.aload_n 0, 1) := by decide +kernel
theorem dX3_draw_37 : decode cX3_draw 37 = .ok (.getfield 52, 3) := by decide +kernel
theorem dX3_draw_40 : decode cX3_draw 40 = .ok (.iload_n 1, 1) := by decide +kernel
theorem dX3_draw_41 : decode cX3_draw 41 = .ok (.iaload, 1) := by decide +kernel
theorem dX3_draw_42 : decode cX3_draw 42 = .ok (.iload_n 2, 1) := by decide +kernel
theorem dX3_draw_43 : decode cX3_draw 43 = .ok (.iadd, 1) := by decide +kernel
theorem dX3_draw_44 : decode cX3_draw 44 = .ok (.aload_n 0, 1) := by decide +kernel
theorem dX3_draw_45 : decode cX3_draw 45 = .ok (.iload_n 1, 1) := by decide +kernel
theorem dX3_draw_46 : decode cX3_draw 46 = .ok (.invokevirtual 107, 3) := by decide +kernel
theorem dX3_draw_49 : decode cX3_draw 49 = .ok (.if_icmp .gt 7, 3) := by decide +kernel
theorem dX3_draw_52 : decode cX3_draw 52 = .ok (.iconst 1, 1) := by decide +kernel
theorem dX3_draw_53 : decode cX3_draw 53 = .ok (.goto 4, 3) := by decide +kernel
theorem dX3_draw_56 : decode cX3_draw 56 = .ok (.iconst 0, 1) := by decide +kernel
theorem dX3_draw_57 : decode cX3_draw 57 = .ok (.istore 4, 2) := by decide +kernel
theorem dX3_draw_59 : decode cX3_draw 59 = .ok (.aload_n 0, 1) := by decide +kernel
theorem dX3_draw_60 : decode cX3_draw 60 = .ok (.aload_n 0, 1) := by decide +kernel
theorem dX3_draw_61 : decode cX3_draw 61 = .ok (.iload_n 1, 1) := by decide +kernel
theorem dX3_draw_62 : decode cX3_draw 62 = .ok (.invokevirtual 104, 3) := by decide +kernel
theorem dX3_draw_65 : decode cX3_draw 65 = .ok (.ifCond .ne 7, 3) := by decide +kernel
theorem dX3_draw_68 : decode cX3_draw 68 = .ok (.iconst 1, 1) := by decide +kernel
theorem dX3_draw_69 : decode cX3_draw 69 = .ok (.goto 21, 3) := by decide +kernel
theorem dX3_draw_72 : decode cX3_draw 72 = .ok (.iload_n 3, 1) := by decide +kernel
theorem dX3_draw_73 : decode cX3_draw 73 = .ok (.ifCond .ne 7, 3) := by decide +kernel
theorem dX3_draw_76 : decode cX3_draw 76 = .ok (.iconst 2, 1) := by decide +kernel
theorem dX3_draw_77 : decode cX3_draw 77 = .ok (.goto 13, 3) := by decide +kernel
theorem dX3_draw_80 : decode cX3_draw 80 = .ok (.iload 4, 2) := by decide +kernel
theorem dX3_draw_82 : decode cX3_draw 82 = .ok (.ifCond .eq 7, 3) := by decide +kernel
theorem dX3_draw_85 : decode cX3_draw 85 = .ok (.iconst 0, 1) := by decide +kernel
theorem dX3_draw_86 : decode cX3_draw 86 = .ok (.goto 4, 3) := by decide +kernel
theorem dX3_draw_89 : decode cX3_draw 89 = .ok (.iconst 3, 1) := by decide +kernel
theorem dX3_draw_90 : decode cX3_draw 90 = .ok (.invokevirtual 86, 3) := by decide +kernel
theorem dX3_draw_93 : decode cX3_draw 93 = .ok (.ifCond .eq 5, 3) := by decide +kernel
theorem dX3_draw_96 : decode cX3_draw 96 = .ok (.iconst 0, 1) := by decide +kernel
theorem dX3_draw_97 : decode cX3_draw 97 = .ok (.ireturn, 1) := by decide +kernel
theorem dX3_draw_98 : decode cX3_draw 98 = .ok (.aload_n 0, 1) := by decide +kernel
theorem dX3_draw_99 : decode cX3_draw 99 = .ok (.getfield 52, 3) := by decide +kernel
theorem dX3_draw_102 : decode cX3_draw 102 = .ok (.iload_n 1, 1) := by decide +kernel
theorem dX3_draw_103 : decode cX3_draw 103 = .ok (.dup2, 1) := by decide +kernel
theorem dX3_draw_104 : decode cX3_draw 104 = .ok (.iaload, 1) := by decide +kernel
theorem dX3_draw_105 : decode cX3_draw 105 = .ok (.iload_n 2, 1) := by decide +kernel
theorem dX3_draw_106 : decode cX3_draw 106 = .ok (.iadd, 1) := by decide +kernel
theorem dX3_draw_107 : decode cX3_draw 107 = .ok (.iastore, 1) := by decide +kernel
theorem dX3_draw_108 : decode cX3_draw 108 = .ok (.aload_n 0, 1) := by decide +kernel
theorem dX3_draw_109 : decode cX3_draw 109 = .ok (.iload_n 1, 1) := by decide +kernel
theorem dX3_draw_110 : decode cX3_draw 110 = .ok (.iload_n 2, 1) := by decide +kernel
theorem dX3_draw_111 : decode cX3_draw 111 = .ok (.invokevirtual 111, 3) := by decide +kernel
theorem dX3_draw_114 : decode cX3_draw 114 = .ok (.aload_n 0, 1) := by decide +kernel
theorem dX3_draw_115 : decode cX3_draw 115 = .ok (.iload_n 1, 1) := by decide +kernel
theorem dX3_draw_116 : decode cX3_draw 116 = .ok (.invokevirtual 107, 3) := by decide +kernel
theorem dX3_draw_119 : decode cX3_draw 119 = .ok (.aload_n 0, 1) := by decide +kernel
theorem dX3_draw_120 : decode cX3_draw 120 = .ok (.getfield 52, 3) := by decide +kernel
theorem dX3_draw_123 : decode cX3_draw 123 = .ok (.iload_n 1, 1) := by decide +kernel
theorem dX3_draw_124 : decode cX3_draw 124 = .ok (.iaload, 1) := by decide +kernel
theorem dX3_draw_125 : decode cX3_draw 125 = .ok (.isub, 1) := by decide +kernel
theorem dX3_draw_126 : decode cX3_draw 126 = .ok (.ireturn, 1) := by decide +kernel
set_option maxRecDepth 20000 in
theorem ggX3_setYield_X3_isFarmer : GoodIn wsX3_setYield wsX3_isFarmer := goodIn_r _ [7, 8, 9, 10, 6, 11, 17, 18, 19, 20, 21, 22, 23, 24, 25, 26, 27, 28, 29, 30, 31, 32, 33, 34, 35, 36, 37, 38, 39, 40] (by decide +kernel) (by decide +kernel)
set_option maxRecDepth 20000 in
theorem gX3_setYield_X3_isFarmer : GoodIn wsX3_setYield (wsV RX3 104 RX3 yX3_isFarmer wsX3_isFarmer) := goodIn_app (goodIn_of _ (by decide +kernel)) ggX3_setYield_X3_isFarmer
set_option maxRecDepth 20000 in
theorem ggX3_setYield_X3_in : GoodIn wsX3_setYield wsX3_in := goodIn_r _ [11] (by decide +kernel) (by decide +kernel)
set_option maxRecDepth 20000 in
theorem gX3_setYield_X3_in : GoodIn wsX3_setYield (va_wsS RX3 74 yX3_in wsX3_in) := goodIn_app (goodIn_of _ (by decide +kernel)) ggX3_setYield_X3_in
set_option maxRecDepth 20000 in
theorem ggX3_setYield_X3_refused : GoodIn wsX3_setYield wsX3_refused := goodIn_r _ [15, 16, 17, 18, 19, 20, 21, 22, 23, 24, 25, 26, 27, 28, 29, 30, 31, 32, 33, 34, 35, 36, 37, 38, 39, 40] (by decide +kernel) (by decide +kernel)
set_option maxRecDepth 20000 in
theorem gX3_setYield_X3_refused : GoodIn wsX3_setYield (wsV RX3 86 RX3 yX3_refused wsX3_refused) := goodIn_app (goodIn_of _ (by decide +kernel)) ggX3_setYield_X3_refused
theorem dX3_setYield_0 : decode cX3_setYield 0 = .ok (.aload_n 0, 1) := by decide +kernel
theorem dX3_setYield_1 : decode cX3_setYield 1 = .ok (.aload_n 0, 1) := by decide +kernel
theorem dX3_setYield_2 : decode cX3_setYield 2 = .ok (.iload_n 1, 1) := by decide +kernel
theorem dX3_setYield_3 : decode cX3_setYield 3 = .ok (.invokevirtual 104, 3) := by decide +kernel
theorem dX3_setYield_6 : decode cX3_setYield 6 = .ok (.ifCond .ne 7, 3) := by decide +kernel
theorem dX3_setYield_9 : decode cX3_setYield 9 = .ok (.iconst 1, 1) := by decide +kernel
theorem dX3_setYield_10 : decode cX3_setYield 10 = .ok (.goto 31, 3) := by decide +kernel
theorem dX3_setYield_13 : decode cX3_setYield 13 = .ok (.iload_n 2, 1) := by decide +kernel
theorem dX3_setYield_14 : decode cX3_setYield 14 = .ok (.iconst 0, 1) := by decide +kernel
theorem dX3_setYield_15 : decode cX3_setYield 15 = .ok (.sipush 200, 3) := by decide +kernel
theorem dX3_setYield_18 : decode cX3_setYield 18 = .ok (.invokestatic 74, 3) := by decide +kernel
theorem dX3_setYield_21 : decode cX3_setYield 21 = .ok (.ifCond .ne 7, 3) := by decide +kernel
theorem dX3_setYield_24 : decode cX3_setYield 24 = .ok (.iconst 2, 1) := by decide +kernel
theorem dX3_setYield_25 : decode cX3_setYield 25 = .ok (.goto 16, 3) := by decide +kernel
theorem dX3_setYield_28 : decode cX3_setYield 28 = .ok (.aload_n 0, 1) := by decide +kernel
theorem dX3_setYield_29 : decode cX3_setYield 29 = .ok (.getfield 101, 3) := by decide +kernel
theorem dX3_setYield_32 : decode cX3_setYield 32 = .ok (.iconst 4, 1) := by decide +kernel
theorem dX3_setYield_33 : decode cX3_setYield 33 = .ok (.if_icmp .ne 7, 3) := by decide +kernel
theorem dX3_setYield_36 : decode cX3_setYield 36 = .ok (.iconst 3, 1) := by decide +kernel
theorem dX3_setYield_37 : decode cX3_setYield 37 = .ok (.goto 4, 3) := by decide +kernel
theorem dX3_setYield_40 : decode cX3_setYield 40 = .ok (.iconst 0, 1) := by decide +kernel
theorem dX3_setYield_41 : decode cX3_setYield 41 = .ok (.invokevirtual 86, 3) := by decide +kernel
theorem dX3_setYield_44 : decode cX3_setYield 44 = .ok (.ifCond .eq 5, 3) := by decide +kernel
theorem dX3_setYield_47 : decode cX3_setYield 47 = .ok (.iconst 0, 1) := by decide +kernel
theorem dX3_setYield_48 : decode cX3_setYield 48 = .ok (.ireturn, 1) := by decide +kernel
theorem dX3_setYield_49 : decode cX3_setYield 49 = .ok (.aload_n 0, 1) := by decide +kernel
theorem dX3_setYield_50 : decode cX3_setYield 50 = .ok (.getfield 58, 3) := by decide +kernel
theorem dX3_setYield_53 : decode cX3_setYield 53 = .ok (.iload_n 1, 1) := by decide +kernel
theorem dX3_setYield_54 : decode cX3_setYield 54 = .ok (.iaload, 1) := by decide +kernel
theorem dX3_setYield_55 : decode cX3_setYield 55 = .ok (.istore_n 3, 1) := by decide +kernel
theorem dX3_setYield_56 : decode cX3_setYield 56 = .ok (.aload_n 0, 1) := by decide +kernel
theorem dX3_setYield_57 : decode cX3_setYield 57 = .ok (.getfield 58, 3) := by decide +kernel
theorem dX3_setYield_60 : decode cX3_setYield 60 = .ok (.iload_n 1, 1) := by decide +kernel
theorem dX3_setYield_61 : decode cX3_setYield 61 = .ok (.iload_n 2, 1) := by decide +kernel
theorem dX3_setYield_62 : decode cX3_setYield 62 = .ok (.iastore, 1) := by decide +kernel
theorem dX3_setYield_63 : decode cX3_setYield 63 = .ok (.iload_n 3, 1) := by decide +kernel
theorem dX3_setYield_64 : decode cX3_setYield 64 = .ok (.ireturn, 1) := by decide +kernel
set_option maxRecDepth 20000 in
theorem ggX3_harvest_X3_come : GoodIn wsX3_harvest wsX3_come := goodIn_r _ [14, 15, 16, 17, 18, 19, 13, 20, 21, 22, 23, 24, 25, 26, 27, 28, 29, 30, 31, 32, 33, 34, 35, 36, 37, 38, 39, 40, 41, 42, 43, 44, 45] (by decide +kernel) (by decide +kernel)
set_option maxRecDepth 20000 in
theorem gX3_harvest_X3_come : GoodIn wsX3_harvest (wsV RX3 117 RX3 yX3_come wsX3_come) := goodIn_app (goodIn_of _ (by decide +kernel)) ggX3_harvest_X3_come
theorem dX3_harvest_0 : decode cX3_harvest 0 = .ok (.aload_n 0, 1) := by decide +kernel
theorem dX3_harvest_1 : decode cX3_harvest 1 = .ok (.getfield 46, 3) := by decide +kernel
theorem dX3_harvest_4 : decode cX3_harvest 4 = .ok (.iload_n 1, 1) := by decide +kernel
theorem dX3_harvest_5 : decode cX3_harvest 5 = .ok (.iaload, 1) := by decide +kernel
theorem dX3_harvest_6 : decode cX3_harvest 6 = .ok (.istore_n 2, 1) := by decide +kernel
theorem dX3_harvest_7 : decode cX3_harvest 7 = .ok (.aload_n 0, 1) := by decide +kernel
theorem dX3_harvest_8 : decode cX3_harvest 8 = .ok (.getfield 49, 3) := by decide +kernel
theorem dX3_harvest_11 : decode cX3_harvest 11 = .ok (.iload_n 1, 1) := by decide +kernel
theorem dX3_harvest_12 : decode cX3_harvest 12 = .ok (.iaload, 1) := by decide +kernel
theorem dX3_harvest_13 : decode cX3_harvest 13 = .ok (.aload_n 0, 1) := by decide +kernel
theorem dX3_harvest_14 : decode cX3_harvest 14 = .ok (.getfield 16, 3) := by decide +kernel
theorem dX3_harvest_17 : decode cX3_harvest 17 = .ok (.iload_n 2, 1) := by decide +kernel
theorem dX3_harvest_18 : decode cX3_harvest 18 = .ok (.iaload, 1) := by decide +kernel
theorem dX3_harvest_19 : decode cX3_harvest 19 = .ok (.imul, 1) := by decide +kernel
theorem dX3_harvest_20 : decode cX3_harvest 20 = .ok (.istore_n 3, 1) := by decide +kernel
theorem dX3_harvest_21 : decode cX3_harvest 21 = .ok (.aload_n 0, 1) := by decide +kernel
theorem dX3_harvest_22 : decode cX3_harvest 22 = .ok (.getfield 31, 3) := by decide +kernel
theorem dX3_harvest_25 : decode cX3_harvest 25 = .ok (.iload_n 1, 1) := by decide +kernel
theorem dX3_harvest_26 : decode cX3_harvest 26 = .ok (.dup2, 1) := by decide +kernel
theorem dX3_harvest_27 : decode cX3_harvest 27 = .ok (.iaload, 1) := by decide +kernel
theorem dX3_harvest_28 : decode cX3_harvest 28 = .ok (.iload_n 3, 1) := by decide +kernel
theorem dX3_harvest_29 : decode cX3_harvest 29 = .ok (.aload_n 0, 1) := by decide +kernel
theorem dX3_harvest_30 : decode cX3_harvest 30 = .ok (.getfield 58, 3) := by decide +kernel
theorem dX3_harvest_33 : decode cX3_harvest 33 = .ok (.iload_n 1, 1) := by decide +kernel
theorem dX3_harvest_34 : decode cX3_harvest 34 = .ok (.iaload, 1) := by decide +kernel
theorem dX3_harvest_35 : decode cX3_harvest 35 = .ok (.imul, 1) := by decide +kernel
theorem dX3_harvest_36 : decode cX3_harvest 36 = .ok (.bipush 100, 2) := by decide +kernel
theorem dX3_harvest_38 : decode cX3_harvest 38 = .ok (.idiv, 1) := by decide +kernel
theorem dX3_harvest_39 : decode cX3_harvest 39 = .ok (.iadd, 1) := by decide +kernel
theorem dX3_harvest_40 : decode cX3_harvest 40 = .ok (.iastore, 1) := by decide +kernel
theorem dX3_harvest_41 : decode cX3_harvest 41 = .ok (.aload_n 0, 1) := by decide +kernel
theorem dX3_harvest_42 : decode cX3_harvest 42 = .ok (.getfield 28, 3) := by decide +kernel
theorem dX3_harvest_45 : decode cX3_harvest 45 = .ok (.iload_n 1, 1) := by decide +kernel
theorem dX3_harvest_46 : decode cX3_harvest 46 = .ok (.iload_n 2, 1) := by decide +kernel
theorem dX3_harvest_47 : decode cX3_harvest 47 = .ok (.iastore, 1) := by decide +kernel
theorem dX3_harvest_48 : decode cX3_harvest 48 = .ok (.aload_n 0, 1) := by decide +kernel
theorem dX3_harvest_49 : decode cX3_harvest 49 = .ok (.getfield 58, 3) := by decide +kernel
theorem dX3_harvest_52 : decode cX3_harvest 52 = .ok (.iload_n 1, 1) := by decide +kernel
theorem dX3_harvest_53 : decode cX3_harvest 53 = .ok (.iaload, 1) := by decide +kernel
theorem dX3_harvest_54 : decode cX3_harvest 54 = .ok (.aload_n 0, 1) := by decide +kernel
theorem dX3_harvest_55 : decode cX3_harvest 55 = .ok (.getfield 55, 3) := by decide +kernel
theorem dX3_harvest_58 : decode cX3_harvest 58 = .ok (.iload_n 1, 1) := by decide +kernel
theorem dX3_harvest_59 : decode cX3_harvest 59 = .ok (.iaload, 1) := by decide +kernel
theorem dX3_harvest_60 : decode cX3_harvest 60 = .ok (.if_icmp .ge 39, 3) := by decide +kernel
theorem dX3_harvest_63 : decode cX3_harvest 63 = .ok (.aload_n 0, 1) := by decide +kernel
theorem dX3_harvest_64 : decode cX3_harvest 64 = .ok (.iload_n 1, 1) := by decide +kernel
theorem dX3_harvest_65 : decode cX3_harvest 65 = .ok (.iload_n 3, 1) := by decide +kernel
theorem dX3_harvest_66 : decode cX3_harvest 66 = .ok (.i2l, 1) := by decide +kernel
theorem dX3_harvest_67 : decode cX3_harvest 67 = .ok (.aload_n 0, 1) := by decide +kernel
theorem dX3_harvest_68 : decode cX3_harvest 68 = .ok (.getfield 13, 3) := by decide +kernel
theorem dX3_harvest_71 : decode cX3_harvest 71 = .ok (.iload_n 2, 1) := by decide +kernel
theorem dX3_harvest_72 : decode cX3_harvest 72 = .ok (.iaload, 1) := by decide +kernel
theorem dX3_harvest_73 : decode cX3_harvest 73 = .ok (.i2l, 1) := by decide +kernel
theorem dX3_harvest_74 : decode cX3_harvest 74 = .ok (.lmul, 1) := by decide +kernel
theorem dX3_harvest_75 : decode cX3_harvest 75 = .ok (.aload_n 0, 1) := by decide +kernel
theorem dX3_harvest_76 : decode cX3_harvest 76 = .ok (.getfield 55, 3) := by decide +kernel
theorem dX3_harvest_79 : decode cX3_harvest 79 = .ok (.iload_n 1, 1) := by decide +kernel
theorem dX3_harvest_80 : decode cX3_harvest 80 = .ok (.iaload, 1) := by decide +kernel
theorem dX3_harvest_81 : decode cX3_harvest 81 = .ok (.aload_n 0, 1) := by decide +kernel
theorem dX3_harvest_82 : decode cX3_harvest 82 = .ok (.getfield 58, 3) := by decide +kernel
theorem dX3_harvest_85 : decode cX3_harvest 85 = .ok (.iload_n 1, 1) := by decide +kernel
theorem dX3_harvest_86 : decode cX3_harvest 86 = .ok (.iaload, 1) := by decide +kernel
theorem dX3_harvest_87 : decode cX3_harvest 87 = .ok (.isub, 1) := by decide +kernel
theorem dX3_harvest_88 : decode cX3_harvest 88 = .ok (.i2l, 1) := by decide +kernel
theorem dX3_harvest_89 : decode cX3_harvest 89 = .ok (.lmul, 1) := by decide +kernel
theorem dX3_harvest_90 : decode cX3_harvest 90 = .ok (.ldc2_w 115, 3) := by decide +kernel
theorem dX3_harvest_93 : decode cX3_harvest 93 = .ok (.ldiv, 1) := by decide +kernel
theorem dX3_harvest_94 : decode cX3_harvest 94 = .ok (.l2i, 1) := by decide +kernel
theorem dX3_harvest_95 : decode cX3_harvest 95 = .ok (.iconst 1, 1) := by decide +kernel
theorem dX3_harvest_96 : decode cX3_harvest 96 = .ok (.invokevirtual 117, 3) := by decide +kernel
theorem dX3_harvest_99 : decode cX3_harvest 99 = .ok (.return_, 1) := by decide +kernel
set_option maxRecDepth 20000 in
theorem ggX3_next_X3_refused : GoodIn wsX3_next wsX3_refused := goodIn_r _ [11, 12, 39, 40, 41, 42, 43, 44, 45, 46, 47, 48, 49, 50, 51, 52, 53, 54, 55, 56, 57, 58, 59, 60, 61, 62] (by decide +kernel) (by decide +kernel)
set_option maxRecDepth 20000 in
theorem gX3_next_X3_refused : GoodIn wsX3_next (wsV RX3 86 RX3 yX3_refused wsX3_refused) := goodIn_app (goodIn_of _ (by decide +kernel)) ggX3_next_X3_refused
set_option maxRecDepth 20000 in
theorem ggX3_next_X3_charge : GoodIn wsX3_next wsX3_charge := goodIn_r _ [16, 3, 17, 39, 40, 41, 42, 43, 44, 45, 46, 47, 48, 49, 50, 51, 52, 53, 54, 55, 56, 57, 58, 59, 60, 61, 62] (by decide +kernel) (by decide +kernel)
set_option maxRecDepth 20000 in
theorem gX3_next_X3_charge : GoodIn wsX3_next (wsV RX3 111 RX3 yX3_charge wsX3_charge) := goodIn_app (goodIn_of _ (by decide +kernel)) ggX3_next_X3_charge
set_option maxRecDepth 20000 in
theorem ggX3_next_X3_harvest : GoodIn wsX3_next wsX3_harvest := goodIn_r _ [21, 6, 22, 23, 24, 25, 26, 27, 28, 5, 29, 30, 31, 10, 32, 3, 33, 34, 35, 36, 37, 38, 39, 40, 41, 42, 43, 44, 45, 46, 47, 48, 49, 50, 51, 52, 53, 54, 55, 56, 57, 58, 59, 60, 61, 62] (by decide +kernel) (by decide +kernel)
set_option maxRecDepth 20000 in
theorem gX3_next_X3_harvest : GoodIn wsX3_next (wsV RX3 122 RX3 yX3_harvest wsX3_harvest) := goodIn_app (goodIn_of _ (by decide +kernel)) ggX3_next_X3_harvest
theorem dX3_next_0 : decode cX3_next 0 = .ok (.aload_n 0, 1) := by decide +kernel
theorem dX3_next_1 : decode cX3_next 1 = .ok (.aload_n 0, 1) := by decide +kernel
theorem dX3_next_2 : decode cX3_next 2 = .ok (.getfield 101, 3) := by decide +kernel
theorem dX3_next_5 : decode cX3_next 5 = .ok (.iconst 4, 1) := by decide +kernel
theorem dX3_next_6 : decode cX3_next 6 = .ok (.if_icmp .ne 7, 3) := by decide +kernel
theorem dX3_next_9 : decode cX3_next 9 = .ok (.iconst 1, 1) := by decide +kernel
theorem dX3_next_10 : decode cX3_next 10 = .ok (.goto 4, 3) := by decide +kernel
theorem dX3_next_13 : decode cX3_next 13 = .ok (.iconst 0, 1) := by decide +kernel
theorem dX3_next_14 : decode cX3_next 14 = .ok (.invokevirtual 86, 3) := by decide +kernel
theorem dX3_next_17 : decode cX3_next 17 = .ok (.ifCond .eq 5, 3) := by decide +kernel
theorem dX3_next_20 : decode cX3_next 20 = .ok (.iconst 0, 1) := by decide +kernel
theorem dX3_next_21 : decode cX3_next 21 = .ok (.ireturn, 1) := by decide +kernel
theorem dX3_next_22 : decode cX3_next 22 = .ok (.aload_n 0, 1) := by decide +kernel
theorem dX3_next_23 : decode cX3_next 23 = .ok (.dup, 1) := by decide +kernel
theorem dX3_next_24 : decode cX3_next 24 = .ok (.getfield 101, 3) := by decide +kernel
theorem dX3_next_27 : decode cX3_next 27 = .ok (.iconst 1, 1) := by decide +kernel
theorem dX3_next_28 : decode cX3_next 28 = .ok (.iadd, 1) := by decide +kernel
theorem dX3_next_29 : decode cX3_next 29 = .ok (.putfield 101, 3) := by decide +kernel
theorem dX3_next_32 : decode cX3_next 32 = .ok (.iconst 0, 1) := by decide +kernel
theorem dX3_next_33 : decode cX3_next 33 = .ok (.istore_n 1, 1) := by decide +kernel
theorem dX3_next_34 : decode cX3_next 34 = .ok (.iload_n 1, 1) := by decide +kernel
theorem dX3_next_35 : decode cX3_next 35 = .ok (.aload_n 0, 1) := by decide +kernel
theorem dX3_next_36 : decode cX3_next 36 = .ok (.getfield 78, 3) := by decide +kernel
theorem dX3_next_39 : decode cX3_next 39 = .ok (.if_icmp .ge 30, 3) := by decide +kernel
theorem dX3_next_42 : decode cX3_next 42 = .ok (.aload_n 0, 1) := by decide +kernel
theorem dX3_next_43 : decode cX3_next 43 = .ok (.iload_n 1, 1) := by decide +kernel
theorem dX3_next_44 : decode cX3_next 44 = .ok (.aload_n 0, 1) := by decide +kernel
theorem dX3_next_45 : decode cX3_next 45 = .ok (.getfield 25, 3) := by decide +kernel
theorem dX3_next_48 : decode cX3_next 48 = .ok (.iload_n 1, 1) := by decide +kernel
theorem dX3_next_49 : decode cX3_next 49 = .ok (.iaload, 1) := by decide +kernel
theorem dX3_next_50 : decode cX3_next 50 = .ok (.i2l, 1) := by decide +kernel
theorem dX3_next_51 : decode cX3_next 51 = .ok (.ldc2_w 120, 3) := by decide +kernel
theorem dX3_next_54 : decode cX3_next 54 = .ok (.lmul, 1) := by decide +kernel
theorem dX3_next_55 : decode cX3_next 55 = .ok (.ldc2_w 115, 3) := by decide +kernel
theorem dX3_next_58 : decode cX3_next 58 = .ok (.ldiv, 1) := by decide +kernel
theorem dX3_next_59 : decode cX3_next 59 = .ok (.l2i, 1) := by decide +kernel
theorem dX3_next_60 : decode cX3_next 60 = .ok (.invokevirtual 111, 3) := by decide +kernel
theorem dX3_next_63 : decode cX3_next 63 = .ok (.iinc 1 1, 3) := by decide +kernel
theorem dX3_next_66 : decode cX3_next 66 = .ok (.goto (-32), 3) := by decide +kernel
theorem dX3_next_69 : decode cX3_next 69 = .ok (.iconst 0, 1) := by decide +kernel
theorem dX3_next_70 : decode cX3_next 70 = .ok (.istore_n 1, 1) := by decide +kernel
theorem dX3_next_71 : decode cX3_next 71 = .ok (.iload_n 1, 1) := by decide +kernel
theorem dX3_next_72 : decode cX3_next 72 = .ok (.aload_n 0, 1) := by decide +kernel
theorem dX3_next_73 : decode cX3_next 73 = .ok (.getfield 78, 3) := by decide +kernel
theorem dX3_next_76 : decode cX3_next 76 = .ok (.if_icmp .ge 32, 3) := by decide +kernel
theorem dX3_next_79 : decode cX3_next 79 = .ok (.aload_n 0, 1) := by decide +kernel
theorem dX3_next_80 : decode cX3_next 80 = .ok (.getfield 101, 3) := by decide +kernel
theorem dX3_next_83 : decode cX3_next 83 = .ok (.iconst 4, 1) := by decide +kernel
theorem dX3_next_84 : decode cX3_next 84 = .ok (.if_icmp .ne 24, 3) := by decide +kernel
theorem dX3_next_87 : decode cX3_next 87 = .ok (.aload_n 0, 1) := by decide +kernel
theorem dX3_next_88 : decode cX3_next 88 = .ok (.getfield 46, 3) := by decide +kernel
theorem dX3_next_91 : decode cX3_next 91 = .ok (.iload_n 1, 1) := by decide +kernel
theorem dX3_next_92 : decode cX3_next 92 = .ok (.iaload, 1) := by decide +kernel
theorem dX3_next_93 : decode cX3_next 93 = .ok (.iconst (-1), 1) := by decide +kernel
theorem dX3_next_94 : decode cX3_next 94 = .ok (.if_icmp .eq 8, 3) := by decide +kernel
theorem dX3_next_97 : decode cX3_next 97 = .ok (.aload_n 0, 1) := by decide +kernel
theorem dX3_next_98 : decode cX3_next 98 = .ok (.iload_n 1, 1) := by decide +kernel
theorem dX3_next_99 : decode cX3_next 99 = .ok (.invokevirtual 122, 3) := by decide +kernel
theorem dX3_next_102 : decode cX3_next 102 = .ok (.iinc 1 1, 3) := by decide +kernel
theorem dX3_next_105 : decode cX3_next 105 = .ok (.goto (-34), 3) := by decide +kernel
theorem dX3_next_108 : decode cX3_next 108 = .ok (.aload_n 0, 1) := by decide +kernel
theorem dX3_next_109 : decode cX3_next 109 = .ok (.getfield 101, 3) := by decide +kernel
theorem dX3_next_112 : decode cX3_next 112 = .ok (.ireturn, 1) := by decide +kernel
set_option maxRecDepth 20000 in
theorem ggX3_pledge_X3_isFarmer : GoodIn wsX3_pledge wsX3_isFarmer := goodIn_r _ [13, 14, 15, 16, 12, 17, 34, 35, 36, 37, 38, 39, 40, 41, 42, 43, 44, 45, 46, 47, 48, 49, 50, 51, 52, 53, 54, 55, 56, 57] (by decide +kernel) (by decide +kernel)
set_option maxRecDepth 20000 in
theorem gX3_pledge_X3_isFarmer : GoodIn wsX3_pledge (wsV RX3 104 RX3 yX3_isFarmer wsX3_isFarmer) := goodIn_app (goodIn_of _ (by decide +kernel)) ggX3_pledge_X3_isFarmer
set_option maxRecDepth 20000 in
theorem ggX3_pledge_X3_in : GoodIn wsX3_pledge wsX3_in := goodIn_r _ [17] (by decide +kernel) (by decide +kernel)
set_option maxRecDepth 20000 in
theorem gX3_pledge_X3_in : GoodIn wsX3_pledge (va_wsS RX3 74 yX3_in wsX3_in) := goodIn_app (goodIn_of _ (by decide +kernel)) ggX3_pledge_X3_in
set_option maxRecDepth 20000 in
theorem ggX3_pledge_X3_refused : GoodIn wsX3_pledge wsX3_refused := goodIn_r _ [21, 22, 34, 35, 36, 37, 38, 39, 40, 41, 42, 43, 44, 45, 46, 47, 48, 49, 50, 51, 52, 53, 54, 55, 56, 57] (by decide +kernel) (by decide +kernel)
set_option maxRecDepth 20000 in
theorem gX3_pledge_X3_refused : GoodIn wsX3_pledge (wsV RX3 86 RX3 yX3_refused wsX3_refused) := goodIn_app (goodIn_of _ (by decide +kernel)) ggX3_pledge_X3_refused
set_option maxRecDepth 20000 in
theorem ggX3_pledge_X3_come : GoodIn wsX3_pledge wsX3_come := goodIn_r _ [26, 27, 28, 29, 30, 31, 12, 32, 33, 34, 35, 36, 37, 38, 39, 40, 41, 42, 43, 44, 45, 46, 47, 48, 49, 50, 51, 52, 53, 54, 55, 56, 57] (by decide +kernel) (by decide +kernel)
set_option maxRecDepth 20000 in
theorem gX3_pledge_X3_come : GoodIn wsX3_pledge (wsV RX3 117 RX3 yX3_come wsX3_come) := goodIn_app (goodIn_of _ (by decide +kernel)) ggX3_pledge_X3_come
theorem dX3_pledge_0 : decode cX3_pledge 0 = .ok (.aload_n 0, 1) := by decide +kernel
theorem dX3_pledge_1 : decode cX3_pledge 1 = .ok (.iload_n 1, 1) := by decide +kernel
theorem dX3_pledge_2 : decode cX3_pledge 2 = .ok (.invokevirtual 104, 3) := by decide +kernel
theorem dX3_pledge_5 : decode cX3_pledge 5 = .ok (.ifCond .eq 17, 3) := by decide +kernel
theorem dX3_pledge_8 : decode cX3_pledge 8 = .ok (.iload_n 2, 1) := by decide +kernel
theorem dX3_pledge_9 : decode cX3_pledge 9 = .ok (.iconst 1, 1) := by decide +kernel
theorem dX3_pledge_10 : decode cX3_pledge 10 = .ok (.ldc 125, 2) := by decide +kernel
theorem dX3_pledge_12 : decode cX3_pledge 12 = .ok (.invokestatic 74, 3) := by decide +kernel
theorem dX3_pledge_15 : decode cX3_pledge 15 = .ok (.ifCond .eq 7, 3) := by decide +kernel
theorem dX3_pledge_18 : decode cX3_pledge 18 = .ok (.iconst 1, 1) := by decide +kernel
theorem dX3_pledge_19 : decode cX3_pledge 19 = .ok (.goto 4, 3) := by decide +kernel
theorem dX3_pledge_22 : decode cX3_pledge 22 = .ok (.iconst 0, 1) := by decide +kernel
theorem dX3_pledge_23 : decode cX3_pledge 23 = .ok (.istore_n 3, 1) := by decide +kernel
theorem dX3_pledge_24 : decode cX3_pledge 24 = .ok (.iload_n 3, 1) := by decide +kernel
theorem dX3_pledge_25 : decode cX3_pledge 25 = .ok (.ifCond .eq 24, 3) := by decide +kernel
theorem dX3_pledge_28 : decode cX3_pledge 28 = .ok (.aload_n 0, 1) := by decide +kernel
theorem dX3_pledge_29 : decode cX3_pledge 29 = .ok (.getfield 31, 3) := by decide +kernel
theorem dX3_pledge_32 : decode cX3_pledge 32 = .ok (.iload_n 1, 1) := by decide +kernel
theorem dX3_pledge_33 : decode cX3_pledge 33 = .ok (.iaload, 1) := by decide +kernel
theorem dX3_pledge_34 : decode cX3_pledge 34 = .ok (.aload_n 0, 1) := by decide +kernel
theorem dX3_pledge_35 : decode cX3_pledge 35 = .ok (.getfield 34, 3) := by decide +kernel
theorem dX3_pledge_38 : decode cX3_pledge 38 = .ok (.iload_n 1, 1) := by decide +kernel
theorem dX3_pledge_39 : decode cX3_pledge 39 = .ok (.iaload, 1) := by decide +kernel
theorem dX3_pledge_40 : decode cX3_pledge 40 = .ok (.isub, 1) := by decide +kernel
theorem dX3_pledge_41 : decode cX3_pledge 41 = .ok (.iload_n 2, 1) := by decide +kernel
theorem dX3_pledge_42 : decode cX3_pledge 42 = .ok (.if_icmp .lt 7, 3) := by decide +kernel
theorem dX3_pledge_45 : decode cX3_pledge 45 = .ok (.iconst 1, 1) := by decide +kernel
theorem dX3_pledge_46 : decode cX3_pledge 46 = .ok (.goto 4, 3) := by decide +kernel
theorem dX3_pledge_49 : decode cX3_pledge 49 = .ok (.iconst 0, 1) := by decide +kernel
theorem dX3_pledge_50 : decode cX3_pledge 50 = .ok (.istore 4, 2) := by decide +kernel
theorem dX3_pledge_52 : decode cX3_pledge 52 = .ok (.aload_n 0, 1) := by decide +kernel
theorem dX3_pledge_53 : decode cX3_pledge 53 = .ok (.aload_n 0, 1) := by decide +kernel
theorem dX3_pledge_54 : decode cX3_pledge 54 = .ok (.iload_n 1, 1) := by decide +kernel
theorem dX3_pledge_55 : decode cX3_pledge 55 = .ok (.invokevirtual 104, 3) := by decide +kernel
theorem dX3_pledge_58 : decode cX3_pledge 58 = .ok (.ifCond .ne 7, 3) := by decide +kernel
theorem dX3_pledge_61 : decode cX3_pledge 61 = .ok (.iconst 1, 1) := by decide +kernel
theorem dX3_pledge_62 : decode cX3_pledge 62 = .ok (.goto 21, 3) := by decide +kernel
theorem dX3_pledge_65 : decode cX3_pledge 65 = .ok (.iload_n 3, 1) := by decide +kernel
theorem dX3_pledge_66 : decode cX3_pledge 66 = .ok (.ifCond .ne 7, 3) := by decide +kernel
theorem dX3_pledge_69 : decode cX3_pledge 69 = .ok (.iconst 2, 1) := by decide +kernel
theorem dX3_pledge_70 : decode cX3_pledge 70 = .ok (.goto 13, 3) := by decide +kernel
theorem dX3_pledge_73 : decode cX3_pledge 73 = .ok (.iload 4, 2) := by decide +kernel
theorem dX3_pledge_75 : decode cX3_pledge 75 = .ok (.ifCond .eq 7, 3) := by decide +kernel
theorem dX3_pledge_78 : decode cX3_pledge 78 = .ok (.iconst 0, 1) := by decide +kernel
theorem dX3_pledge_79 : decode cX3_pledge 79 = .ok (.goto 4, 3) := by decide +kernel
theorem dX3_pledge_82 : decode cX3_pledge 82 = .ok (.iconst 3, 1) := by decide +kernel
theorem dX3_pledge_83 : decode cX3_pledge 83 = .ok (.invokevirtual 86, 3) := by decide +kernel
theorem dX3_pledge_86 : decode cX3_pledge 86 = .ok (.ifCond .eq 5, 3) := by decide +kernel
theorem dX3_pledge_89 : decode cX3_pledge 89 = .ok (.iconst 0, 1) := by decide +kernel
theorem dX3_pledge_90 : decode cX3_pledge 90 = .ok (.ireturn, 1) := by decide +kernel
theorem dX3_pledge_91 : decode cX3_pledge 91 = .ok (.iload_n 2, 1) := by decide +kernel
theorem dX3_pledge_92 : decode cX3_pledge 92 = .ok (.i2l, 1) := by decide +kernel
theorem dX3_pledge_93 : decode cX3_pledge 93 = .ok (.aload_n 0, 1) := by decide +kernel
theorem dX3_pledge_94 : decode cX3_pledge 94 = .ok (.getfield 13, 3) := by decide +kernel
theorem dX3_pledge_97 : decode cX3_pledge 97 = .ok (.aload_n 0, 1) := by decide +kernel
theorem dX3_pledge_98 : decode cX3_pledge 98 = .ok (.getfield 28, 3) := by decide +kernel
theorem dX3_pledge_101 : decode cX3_pledge 101 = .ok (.iload_n 1, 1) := by decide +kernel
theorem dX3_pledge_102 : decode cX3_pledge 102 = .ok (.iaload, 1) := by decide +kernel
theorem dX3_pledge_103 : decode cX3_pledge 103 = .ok (.iaload, 1) := by decide +kernel
theorem dX3_pledge_104 : decode cX3_pledge 104 = .ok (.i2l, 1) := by decide +kernel
theorem dX3_pledge_105 : decode cX3_pledge 105 = .ok (.lmul, 1) := by decide +kernel
theorem dX3_pledge_106 : decode cX3_pledge 106 = .ok (.ldc2_w 126, 3) := by decide +kernel
theorem dX3_pledge_109 : decode cX3_pledge 109 = .ok (.lmul, 1) := by decide +kernel
theorem dX3_pledge_110 : decode cX3_pledge 110 = .ok (.ldc2_w 115, 3) := by decide +kernel
theorem dX3_pledge_113 : decode cX3_pledge 113 = .ok (.ldiv, 1) := by decide +kernel
theorem dX3_pledge_114 : decode cX3_pledge 114 = .ok (.l2i, 1) := by decide +kernel
theorem dX3_pledge_115 : decode cX3_pledge 115 = .ok (.istore 5, 2) := by decide +kernel
theorem dX3_pledge_117 : decode cX3_pledge 117 = .ok (.aload_n 0, 1) := by decide +kernel
theorem dX3_pledge_118 : decode cX3_pledge 118 = .ok (.getfield 34, 3) := by decide +kernel
theorem dX3_pledge_121 : decode cX3_pledge 121 = .ok (.iload_n 1, 1) := by decide +kernel
theorem dX3_pledge_122 : decode cX3_pledge 122 = .ok (.dup2, 1) := by decide +kernel
theorem dX3_pledge_123 : decode cX3_pledge 123 = .ok (.iaload, 1) := by decide +kernel
theorem dX3_pledge_124 : decode cX3_pledge 124 = .ok (.iload_n 2, 1) := by decide +kernel
theorem dX3_pledge_125 : decode cX3_pledge 125 = .ok (.iadd, 1) := by decide +kernel
theorem dX3_pledge_126 : decode cX3_pledge 126 = .ok (.iastore, 1) := by decide +kernel
theorem dX3_pledge_127 : decode cX3_pledge 127 = .ok (.aload_n 0, 1) := by decide +kernel
theorem dX3_pledge_128 : decode cX3_pledge 128 = .ok (.getfield 37, 3) := by decide +kernel
theorem dX3_pledge_131 : decode cX3_pledge 131 = .ok (.iload_n 1, 1) := by decide +kernel
theorem dX3_pledge_132 : decode cX3_pledge 132 = .ok (.dup2, 1) := by decide +kernel
theorem dX3_pledge_133 : decode cX3_pledge 133 = .ok (.iaload, 1) := by decide +kernel
theorem dX3_pledge_134 : decode cX3_pledge 134 = .ok (.iload 5, 2) := by decide +kernel
theorem dX3_pledge_136 : decode cX3_pledge 136 = .ok (.iadd, 1) := by decide +kernel
theorem dX3_pledge_137 : decode cX3_pledge 137 = .ok (.iastore, 1) := by decide +kernel
theorem dX3_pledge_138 : decode cX3_pledge 138 = .ok (.aload_n 0, 1) := by decide +kernel
theorem dX3_pledge_139 : decode cX3_pledge 139 = .ok (.iload_n 1, 1) := by decide +kernel
theorem dX3_pledge_140 : decode cX3_pledge 140 = .ok (.iload 5, 2) := by decide +kernel
theorem dX3_pledge_142 : decode cX3_pledge 142 = .ok (.iconst 2, 1) := by decide +kernel
theorem dX3_pledge_143 : decode cX3_pledge 143 = .ok (.invokevirtual 117, 3) := by decide +kernel
theorem dX3_pledge_146 : decode cX3_pledge 146 = .ok (.iload 5, 2) := by decide +kernel
theorem dX3_pledge_148 : decode cX3_pledge 148 = .ok (.ireturn, 1) := by decide +kernel
set_option maxRecDepth 20000 in
theorem ggX3_sell_X3_isFarmer : GoodIn wsX3_sell wsX3_isFarmer := goodIn_r _ [11, 12, 13, 14, 10, 15, 37, 38, 39, 40, 41, 42, 43, 44, 45, 46, 47, 48, 49, 50, 51, 52, 53, 54, 55, 56, 57, 58, 59, 60] (by decide +kernel) (by decide +kernel)
set_option maxRecDepth 20000 in
theorem gX3_sell_X3_isFarmer : GoodIn wsX3_sell (wsV RX3 104 RX3 yX3_isFarmer wsX3_isFarmer) := goodIn_app (goodIn_of _ (by decide +kernel)) ggX3_sell_X3_isFarmer
set_option maxRecDepth 20000 in
theorem ggX3_sell_X3_in : GoodIn wsX3_sell wsX3_in := goodIn_r _ [15] (by decide +kernel) (by decide +kernel)
set_option maxRecDepth 20000 in
theorem gX3_sell_X3_in : GoodIn wsX3_sell (va_wsS RX3 74 yX3_in wsX3_in) := goodIn_app (goodIn_of _ (by decide +kernel)) ggX3_sell_X3_in
set_option maxRecDepth 20000 in
theorem ggX3_sell_X3_refused : GoodIn wsX3_sell wsX3_refused := goodIn_r _ [19, 20, 37, 38, 39, 40, 41, 42, 43, 44, 45, 46, 47, 48, 49, 50, 51, 52, 53, 54, 55, 56, 57, 58, 59, 60] (by decide +kernel) (by decide +kernel)
set_option maxRecDepth 20000 in
theorem gX3_sell_X3_refused : GoodIn wsX3_sell (wsV RX3 86 RX3 yX3_refused wsX3_refused) := goodIn_app (goodIn_of _ (by decide +kernel)) ggX3_sell_X3_refused
set_option maxRecDepth 20000 in
theorem ggX3_sell_X3_come : GoodIn wsX3_sell wsX3_come := goodIn_r _ [24, 25, 26, 27, 28, 29, 10, 30, 31, 37, 38, 39, 40, 41, 42, 43, 44, 45, 46, 47, 48, 49, 50, 51, 52, 53, 54, 55, 56, 57, 58, 59, 60] (by decide +kernel) (by decide +kernel)
set_option maxRecDepth 20000 in
theorem gX3_sell_X3_come : GoodIn wsX3_sell (wsV RX3 117 RX3 yX3_come wsX3_come) := goodIn_app (goodIn_of _ (by decide +kernel)) ggX3_sell_X3_come
set_option maxRecDepth 20000 in
theorem ggX3_sell_X3_charge : GoodIn wsX3_sell wsX3_charge := goodIn_r _ [35, 25, 36, 37, 38, 39, 40, 41, 42, 43, 44, 45, 46, 47, 48, 49, 50, 51, 52, 53, 54, 55, 56, 57, 58, 59, 60] (by decide +kernel) (by decide +kernel)
set_option maxRecDepth 20000 in
theorem gX3_sell_X3_charge : GoodIn wsX3_sell (wsV RX3 111 RX3 yX3_charge wsX3_charge) := goodIn_app (goodIn_of _ (by decide +kernel)) ggX3_sell_X3_charge
theorem dX3_sell_0 : decode cX3_sell 0 = .ok (.aload_n 0, 1) := by decide +kernel
theorem dX3_sell_1 : decode cX3_sell 1 = .ok (.iload_n 1, 1) := by decide +kernel
theorem dX3_sell_2 : decode cX3_sell 2 = .ok (.invokevirtual 104, 3) := by decide +kernel
theorem dX3_sell_5 : decode cX3_sell 5 = .ok (.ifCond .eq 17, 3) := by decide +kernel
theorem dX3_sell_8 : decode cX3_sell 8 = .ok (.iload_n 2, 1) := by decide +kernel
theorem dX3_sell_9 : decode cX3_sell 9 = .ok (.iconst 1, 1) := by decide +kernel
theorem dX3_sell_10 : decode cX3_sell 10 = .ok (.ldc 125, 2) := by decide +kernel
theorem dX3_sell_12 : decode cX3_sell 12 = .ok (.invokestatic 74, 3) := by decide +kernel
theorem dX3_sell_15 : decode cX3_sell 15 = .ok (.ifCond .eq 7, 3) := by decide +kernel
theorem dX3_sell_18 : decode cX3_sell 18 = .ok (.iconst 1, 1) := by decide +kernel
theorem dX3_sell_19 : decode cX3_sell 19 = .ok (.goto 4, 3) := by decide +kernel
theorem dX3_sell_22 : decode cX3_sell 22 = .ok (.iconst 0, 1) := by decide +kernel
theorem dX3_sell_23 : decode cX3_sell 23 = .ok (.istore_n 3, 1) := by decide +kernel
theorem dX3_sell_24 : decode cX3_sell 24 = .ok (.aload_n 0, 1) := by decide +kernel
theorem dX3_sell_25 : decode cX3_sell 25 = .ok (.aload_n 0, 1) := by decide +kernel
theorem dX3_sell_26 : decode cX3_sell 26 = .ok (.iload_n 1, 1) := by decide +kernel
theorem dX3_sell_27 : decode cX3_sell 27 = .ok (.invokevirtual 104, 3) := by decide +kernel
theorem dX3_sell_30 : decode cX3_sell 30 = .ok (.ifCond .ne 7, 3) := by decide +kernel
theorem dX3_sell_33 : decode cX3_sell 33 = .ok (.iconst 1, 1) := by decide +kernel
theorem dX3_sell_34 : decode cX3_sell 34 = .ok (.goto 26, 3) := by decide +kernel
theorem dX3_sell_37 : decode cX3_sell 37 = .ok (.iload_n 3, 1) := by decide +kernel
theorem dX3_sell_38 : decode cX3_sell 38 = .ok (.ifCond .ne 7, 3) := by decide +kernel
theorem dX3_sell_41 : decode cX3_sell 41 = .ok (.iconst 2, 1) := by decide +kernel
theorem dX3_sell_42 : decode cX3_sell 42 = .ok (.goto 18, 3) := by decide +kernel
theorem dX3_sell_45 : decode cX3_sell 45 = .ok (.aload_n 0, 1) := by decide +kernel
theorem dX3_sell_46 : decode cX3_sell 46 = .ok (.getfield 31, 3) := by decide +kernel
theorem dX3_sell_49 : decode cX3_sell 49 = .ok (.iload_n 1, 1) := by decide +kernel
theorem dX3_sell_50 : decode cX3_sell 50 = .ok (.iaload, 1) := by decide +kernel
theorem dX3_sell_51 : decode cX3_sell 51 = .ok (.iload_n 2, 1) := by decide +kernel
theorem dX3_sell_52 : decode cX3_sell 52 = .ok (.if_icmp .ge 7, 3) := by decide +kernel
theorem dX3_sell_55 : decode cX3_sell 55 = .ok (.iconst 3, 1) := by decide +kernel
theorem dX3_sell_56 : decode cX3_sell 56 = .ok (.goto 4, 3) := by decide +kernel
theorem dX3_sell_59 : decode cX3_sell 59 = .ok (.iconst 0, 1) := by decide +kernel
theorem dX3_sell_60 : decode cX3_sell 60 = .ok (.invokevirtual 86, 3) := by decide +kernel
theorem dX3_sell_63 : decode cX3_sell 63 = .ok (.ifCond .eq 5, 3) := by decide +kernel
theorem dX3_sell_66 : decode cX3_sell 66 = .ok (.iconst 0, 1) := by decide +kernel
theorem dX3_sell_67 : decode cX3_sell 67 = .ok (.ireturn, 1) := by decide +kernel
theorem dX3_sell_68 : decode cX3_sell 68 = .ok (.aload_n 0, 1) := by decide +kernel
theorem dX3_sell_69 : decode cX3_sell 69 = .ok (.getfield 13, 3) := by decide +kernel
theorem dX3_sell_72 : decode cX3_sell 72 = .ok (.aload_n 0, 1) := by decide +kernel
theorem dX3_sell_73 : decode cX3_sell 73 = .ok (.getfield 28, 3) := by decide +kernel
theorem dX3_sell_76 : decode cX3_sell 76 = .ok (.iload_n 1, 1) := by decide +kernel
theorem dX3_sell_77 : decode cX3_sell 77 = .ok (.iaload, 1) := by decide +kernel
theorem dX3_sell_78 : decode cX3_sell 78 = .ok (.iaload, 1) := by decide +kernel
theorem dX3_sell_79 : decode cX3_sell 79 = .ok (.istore 4, 2) := by decide +kernel
theorem dX3_sell_81 : decode cX3_sell 81 = .ok (.aload_n 0, 1) := by decide +kernel
theorem dX3_sell_82 : decode cX3_sell 82 = .ok (.getfield 31, 3) := by decide +kernel
theorem dX3_sell_85 : decode cX3_sell 85 = .ok (.iload_n 1, 1) := by decide +kernel
theorem dX3_sell_86 : decode cX3_sell 86 = .ok (.iaload, 1) := by decide +kernel
theorem dX3_sell_87 : decode cX3_sell 87 = .ok (.aload_n 0, 1) := by decide +kernel
theorem dX3_sell_88 : decode cX3_sell 88 = .ok (.getfield 34, 3) := by decide +kernel
theorem dX3_sell_91 : decode cX3_sell 91 = .ok (.iload_n 1, 1) := by decide +kernel
theorem dX3_sell_92 : decode cX3_sell 92 = .ok (.iaload, 1) := by decide +kernel
theorem dX3_sell_93 : decode cX3_sell 93 = .ok (.isub, 1) := by decide +kernel
theorem dX3_sell_94 : decode cX3_sell 94 = .ok (.istore 5, 2) := by decide +kernel
theorem dX3_sell_96 : decode cX3_sell 96 = .ok (.iload_n 2, 1) := by decide +kernel
theorem dX3_sell_97 : decode cX3_sell 97 = .ok (.iload 5, 2) := by decide +kernel
theorem dX3_sell_99 : decode cX3_sell 99 = .ok (.if_icmp .ge 7, 3) := by decide +kernel
theorem dX3_sell_102 : decode cX3_sell 102 = .ok (.iload_n 2, 1) := by decide +kernel
theorem dX3_sell_103 : decode cX3_sell 103 = .ok (.goto 5, 3) := by decide +kernel
theorem dX3_sell_106 : decode cX3_sell 106 = .ok (.iload 5, 2) := by decide +kernel
theorem dX3_sell_108 : decode cX3_sell 108 = .ok (.istore 6, 2) := by decide +kernel
theorem dX3_sell_110 : decode cX3_sell 110 = .ok (.iload_n 2, 1) := by decide +kernel
theorem dX3_sell_111 : decode cX3_sell 111 = .ok (.iload 6, 2) := by decide +kernel
theorem dX3_sell_113 : decode cX3_sell 113 = .ok (.isub, 1) := by decide +kernel
theorem dX3_sell_114 : decode cX3_sell 114 = .ok (.istore 7, 2) := by decide +kernel
theorem dX3_sell_116 : decode cX3_sell 116 = .ok (.aload_n 0, 1) := by decide +kernel
theorem dX3_sell_117 : decode cX3_sell 117 = .ok (.iload_n 1, 1) := by decide +kernel
theorem dX3_sell_118 : decode cX3_sell 118 = .ok (.iload 6, 2) := by decide +kernel
theorem dX3_sell_120 : decode cX3_sell 120 = .ok (.iload 4, 2) := by decide +kernel
theorem dX3_sell_122 : decode cX3_sell 122 = .ok (.imul, 1) := by decide +kernel
theorem dX3_sell_123 : decode cX3_sell 123 = .ok (.iconst 3, 1) := by decide +kernel
theorem dX3_sell_124 : decode cX3_sell 124 = .ok (.invokevirtual 117, 3) := by decide +kernel
theorem dX3_sell_127 : decode cX3_sell 127 = .ok (.iload 7, 2) := by decide +kernel
theorem dX3_sell_129 : decode cX3_sell 129 = .ok (.iload 4, 2) := by decide +kernel
theorem dX3_sell_131 : decode cX3_sell 131 = .ok (.imul, 1) := by decide +kernel
theorem dX3_sell_132 : decode cX3_sell 132 = .ok (.aload_n 0, 1) := by decide +kernel
theorem dX3_sell_133 : decode cX3_sell 133 = .ok (.getfield 37, 3) := by decide +kernel
theorem dX3_sell_136 : decode cX3_sell 136 = .ok (.iload_n 1, 1) := by decide +kernel
theorem dX3_sell_137 : decode cX3_sell 137 = .ok (.iaload, 1) := by decide +kernel
theorem dX3_sell_138 : decode cX3_sell 138 = .ok (.if_icmp .ge 11, 3) := by decide +kernel
theorem dX3_sell_141 : decode cX3_sell 141 = .ok (.iload 7, 2) := by decide +kernel
theorem dX3_sell_143 : decode cX3_sell 143 = .ok (.iload 4, 2) := by decide +kernel
theorem dX3_sell_145 : decode cX3_sell 145 = .ok (.imul, 1) := by decide +kernel
theorem dX3_sell_146 : decode cX3_sell 146 = .ok (.goto 9, 3) := by decide +kernel
theorem dX3_sell_149 : decode cX3_sell 149 = .ok (.aload_n 0, 1) := by decide +kernel
theorem dX3_sell_150 : decode cX3_sell 150 = .ok (.getfield 37, 3) := by decide +kernel
theorem dX3_sell_153 : decode cX3_sell 153 = .ok (.iload_n 1, 1) := by decide +kernel
theorem dX3_sell_154 : decode cX3_sell 154 = .ok (.iaload, 1) := by decide +kernel
theorem dX3_sell_155 : decode cX3_sell 155 = .ok (.istore 8, 2) := by decide +kernel
theorem dX3_sell_157 : decode cX3_sell 157 = .ok (.aload_n 0, 1) := by decide +kernel
theorem dX3_sell_158 : decode cX3_sell 158 = .ok (.getfield 37, 3) := by decide +kernel
theorem dX3_sell_161 : decode cX3_sell 161 = .ok (.iload_n 1, 1) := by decide +kernel
theorem dX3_sell_162 : decode cX3_sell 162 = .ok (.dup2, 1) := by decide +kernel
theorem dX3_sell_163 : decode cX3_sell 163 = .ok (.iaload, 1) := by decide +kernel
theorem dX3_sell_164 : decode cX3_sell 164 = .ok (.iload 8, 2) := by decide +kernel
theorem dX3_sell_166 : decode cX3_sell 166 = .ok (.isub, 1) := by decide +kernel
theorem dX3_sell_167 : decode cX3_sell 167 = .ok (.iastore, 1) := by decide +kernel
theorem dX3_sell_168 : decode cX3_sell 168 = .ok (.aload_n 0, 1) := by decide +kernel
theorem dX3_sell_169 : decode cX3_sell 169 = .ok (.iload_n 1, 1) := by decide +kernel
theorem dX3_sell_170 : decode cX3_sell 170 = .ok (.iload 7, 2) := by decide +kernel
theorem dX3_sell_172 : decode cX3_sell 172 = .ok (.iload 4, 2) := by decide +kernel
theorem dX3_sell_174 : decode cX3_sell 174 = .ok (.imul, 1) := by decide +kernel
theorem dX3_sell_175 : decode cX3_sell 175 = .ok (.iload 8, 2) := by decide +kernel
theorem dX3_sell_177 : decode cX3_sell 177 = .ok (.isub, 1) := by decide +kernel
theorem dX3_sell_178 : decode cX3_sell 178 = .ok (.iconst 3, 1) := by decide +kernel
theorem dX3_sell_179 : decode cX3_sell 179 = .ok (.invokevirtual 117, 3) := by decide +kernel
theorem dX3_sell_182 : decode cX3_sell 182 = .ok (.aload_n 0, 1) := by decide +kernel
theorem dX3_sell_183 : decode cX3_sell 183 = .ok (.getfield 31, 3) := by decide +kernel
theorem dX3_sell_186 : decode cX3_sell 186 = .ok (.iload_n 1, 1) := by decide +kernel
theorem dX3_sell_187 : decode cX3_sell 187 = .ok (.dup2, 1) := by decide +kernel
theorem dX3_sell_188 : decode cX3_sell 188 = .ok (.iaload, 1) := by decide +kernel
theorem dX3_sell_189 : decode cX3_sell 189 = .ok (.iload_n 2, 1) := by decide +kernel
theorem dX3_sell_190 : decode cX3_sell 190 = .ok (.isub, 1) := by decide +kernel
theorem dX3_sell_191 : decode cX3_sell 191 = .ok (.iastore, 1) := by decide +kernel
theorem dX3_sell_192 : decode cX3_sell 192 = .ok (.aload_n 0, 1) := by decide +kernel
theorem dX3_sell_193 : decode cX3_sell 193 = .ok (.getfield 34, 3) := by decide +kernel
theorem dX3_sell_196 : decode cX3_sell 196 = .ok (.iload_n 1, 1) := by decide +kernel
theorem dX3_sell_197 : decode cX3_sell 197 = .ok (.dup2, 1) := by decide +kernel
theorem dX3_sell_198 : decode cX3_sell 198 = .ok (.iaload, 1) := by decide +kernel
theorem dX3_sell_199 : decode cX3_sell 199 = .ok (.iload 7, 2) := by decide +kernel
theorem dX3_sell_201 : decode cX3_sell 201 = .ok (.isub, 1) := by decide +kernel
theorem dX3_sell_202 : decode cX3_sell 202 = .ok (.iastore, 1) := by decide +kernel
theorem dX3_sell_203 : decode cX3_sell 203 = .ok (.aload_n 0, 1) := by decide +kernel
theorem dX3_sell_204 : decode cX3_sell 204 = .ok (.getfield 34, 3) := by decide +kernel
theorem dX3_sell_207 : decode cX3_sell 207 = .ok (.iload_n 1, 1) := by decide +kernel
theorem dX3_sell_208 : decode cX3_sell 208 = .ok (.iaload, 1) := by decide +kernel
theorem dX3_sell_209 : decode cX3_sell 209 = .ok (.ifCond .ne 21, 3) := by decide +kernel
theorem dX3_sell_212 : decode cX3_sell 212 = .ok (.aload_n 0, 1) := by decide +kernel
theorem dX3_sell_213 : decode cX3_sell 213 = .ok (.iload_n 1, 1) := by decide +kernel
theorem dX3_sell_214 : decode cX3_sell 214 = .ok (.aload_n 0, 1) := by decide +kernel
theorem dX3_sell_215 : decode cX3_sell 215 = .ok (.getfield 37, 3) := by decide +kernel
theorem dX3_sell_218 : decode cX3_sell 218 = .ok (.iload_n 1, 1) := by decide +kernel
theorem dX3_sell_219 : decode cX3_sell 219 = .ok (.iaload, 1) := by decide +kernel
theorem dX3_sell_220 : decode cX3_sell 220 = .ok (.invokevirtual 111, 3) := by decide +kernel
theorem dX3_sell_223 : decode cX3_sell 223 = .ok (.aload_n 0, 1) := by decide +kernel
theorem dX3_sell_224 : decode cX3_sell 224 = .ok (.getfield 37, 3) := by decide +kernel
theorem dX3_sell_227 : decode cX3_sell 227 = .ok (.iload_n 1, 1) := by decide +kernel
theorem dX3_sell_228 : decode cX3_sell 228 = .ok (.iconst 0, 1) := by decide +kernel
theorem dX3_sell_229 : decode cX3_sell 229 = .ok (.iastore, 1) := by decide +kernel
theorem dX3_sell_230 : decode cX3_sell 230 = .ok (.iload_n 2, 1) := by decide +kernel
theorem dX3_sell_231 : decode cX3_sell 231 = .ok (.iload 4, 2) := by decide +kernel
theorem dX3_sell_233 : decode cX3_sell 233 = .ok (.imul, 1) := by decide +kernel
theorem dX3_sell_234 : decode cX3_sell 234 = .ok (.ireturn, 1) := by decide +kernel
set_option maxRecDepth 20000 in
theorem ggX3_repay_X3_isFarmer : GoodIn wsX3_repay wsX3_isFarmer := goodIn_r _ [8, 9, 10, 11, 7, 12, 23, 24, 25, 26, 27, 28, 29, 30, 31, 32, 33, 34, 35, 36, 37, 38, 39, 40, 41, 42, 43, 44, 45, 46] (by decide +kernel) (by decide +kernel)
set_option maxRecDepth 20000 in
theorem gX3_repay_X3_isFarmer : GoodIn wsX3_repay (wsV RX3 104 RX3 yX3_isFarmer wsX3_isFarmer) := goodIn_app (goodIn_of _ (by decide +kernel)) ggX3_repay_X3_isFarmer
set_option maxRecDepth 20000 in
theorem ggX3_repay_X3_in : GoodIn wsX3_repay wsX3_in := goodIn_r _ [12] (by decide +kernel) (by decide +kernel)
set_option maxRecDepth 20000 in
theorem gX3_repay_X3_in : GoodIn wsX3_repay (va_wsS RX3 74 yX3_in wsX3_in) := goodIn_app (goodIn_of _ (by decide +kernel)) ggX3_repay_X3_in
set_option maxRecDepth 20000 in
theorem ggX3_repay_X3_refused : GoodIn wsX3_repay wsX3_refused := goodIn_r _ [16, 17, 23, 24, 25, 26, 27, 28, 29, 30, 31, 32, 33, 34, 35, 36, 37, 38, 39, 40, 41, 42, 43, 44, 45, 46] (by decide +kernel) (by decide +kernel)
set_option maxRecDepth 20000 in
theorem gX3_repay_X3_refused : GoodIn wsX3_repay (wsV RX3 86 RX3 yX3_refused wsX3_refused) := goodIn_app (goodIn_of _ (by decide +kernel)) ggX3_repay_X3_refused
set_option maxRecDepth 20000 in
theorem ggX3_repay_X3_lower : GoodIn wsX3_repay wsX3_lower := goodIn_r _ [21, 2, 22, 23, 24, 25, 26, 27, 28, 29, 30, 31, 32, 33, 34, 35, 36, 37, 38, 39, 40, 41, 42, 43, 44, 45, 46] (by decide +kernel) (by decide +kernel)
set_option maxRecDepth 20000 in
theorem gX3_repay_X3_lower : GoodIn wsX3_repay (wsV RX3 97 RX3 yX3_lower wsX3_lower) := goodIn_app (goodIn_of _ (by decide +kernel)) ggX3_repay_X3_lower
theorem dX3_repay_0 : decode cX3_repay 0 = .ok (.aload_n 0, 1) := by decide +kernel
theorem dX3_repay_1 : decode cX3_repay 1 = .ok (.iload_n 1, 1) := by decide +kernel
theorem dX3_repay_2 : decode cX3_repay 2 = .ok (.invokevirtual 104, 3) := by decide +kernel
theorem dX3_repay_5 : decode cX3_repay 5 = .ok (.ifCond .eq 17, 3) := by decide +kernel
theorem dX3_repay_8 : decode cX3_repay 8 = .ok (.iload_n 2, 1) := by decide +kernel
theorem dX3_repay_9 : decode cX3_repay 9 = .ok (.iconst 1, 1) := by decide +kernel
theorem dX3_repay_10 : decode cX3_repay 10 = .ok (.ldc 110, 2) := by decide +kernel
theorem dX3_repay_12 : decode cX3_repay 12 = .ok (.invokestatic 74, 3) := by decide +kernel
theorem dX3_repay_15 : decode cX3_repay 15 = .ok (.ifCond .eq 7, 3) := by decide +kernel
theorem dX3_repay_18 : decode cX3_repay 18 = .ok (.iconst 1, 1) := by decide +kernel
theorem dX3_repay_19 : decode cX3_repay 19 = .ok (.goto 4, 3) := by decide +kernel
theorem dX3_repay_22 : decode cX3_repay 22 = .ok (.iconst 0, 1) := by decide +kernel
theorem dX3_repay_23 : decode cX3_repay 23 = .ok (.istore_n 3, 1) := by decide +kernel
theorem dX3_repay_24 : decode cX3_repay 24 = .ok (.iload_n 3, 1) := by decide +kernel
theorem dX3_repay_25 : decode cX3_repay 25 = .ok (.ifCond .eq 27, 3) := by decide +kernel
theorem dX3_repay_28 : decode cX3_repay 28 = .ok (.aload_n 0, 1) := by decide +kernel
theorem dX3_repay_29 : decode cX3_repay 29 = .ok (.getfield 25, 3) := by decide +kernel
theorem dX3_repay_32 : decode cX3_repay 32 = .ok (.iload_n 1, 1) := by decide +kernel
theorem dX3_repay_33 : decode cX3_repay 33 = .ok (.iaload, 1) := by decide +kernel
theorem dX3_repay_34 : decode cX3_repay 34 = .ok (.iload_n 2, 1) := by decide +kernel
theorem dX3_repay_35 : decode cX3_repay 35 = .ok (.if_icmp .lt 17, 3) := by decide +kernel
theorem dX3_repay_38 : decode cX3_repay 38 = .ok (.aload_n 0, 1) := by decide +kernel
theorem dX3_repay_39 : decode cX3_repay 39 = .ok (.getfield 22, 3) := by decide +kernel
theorem dX3_repay_42 : decode cX3_repay 42 = .ok (.iload_n 1, 1) := by decide +kernel
theorem dX3_repay_43 : decode cX3_repay 43 = .ok (.iaload, 1) := by decide +kernel
theorem dX3_repay_44 : decode cX3_repay 44 = .ok (.iload_n 2, 1) := by decide +kernel
theorem dX3_repay_45 : decode cX3_repay 45 = .ok (.if_icmp .lt 7, 3) := by decide +kernel
theorem dX3_repay_48 : decode cX3_repay 48 = .ok (.iconst 1, 1) := by decide +kernel
theorem dX3_repay_49 : decode cX3_repay 49 = .ok (.goto 4, 3) := by decide +kernel
theorem dX3_repay_52 : decode cX3_repay 52 = .ok (.iconst 0, 1) := by decide +kernel
theorem dX3_repay_53 : decode cX3_repay 53 = .ok (.istore 4, 2) := by decide +kernel
theorem dX3_repay_55 : decode cX3_repay 55 = .ok (.aload_n 0, 1) := by decide +kernel
theorem dX3_repay_56 : decode cX3_repay 56 = .ok (.aload_n 0, 1) := by decide +kernel
theorem dX3_repay_57 : decode cX3_repay 57 = .ok (.iload_n 1, 1) := by decide +kernel
theorem dX3_repay_58 : decode cX3_repay 58 = .ok (.invokevirtual 104, 3) := by decide +kernel
theorem dX3_repay_61 : decode cX3_repay 61 = .ok (.ifCond .ne 7, 3) := by decide +kernel
theorem dX3_repay_64 : decode cX3_repay 64 = .ok (.iconst 1, 1) := by decide +kernel
theorem dX3_repay_65 : decode cX3_repay 65 = .ok (.goto 21, 3) := by decide +kernel
theorem dX3_repay_68 : decode cX3_repay 68 = .ok (.iload_n 3, 1) := by decide +kernel
theorem dX3_repay_69 : decode cX3_repay 69 = .ok (.ifCond .ne 7, 3) := by decide +kernel
theorem dX3_repay_72 : decode cX3_repay 72 = .ok (.iconst 2, 1) := by decide +kernel
theorem dX3_repay_73 : decode cX3_repay 73 = .ok (.goto 13, 3) := by decide +kernel
theorem dX3_repay_76 : decode cX3_repay 76 = .ok (.iload 4, 2) := by decide +kernel
theorem dX3_repay_78 : decode cX3_repay 78 = .ok (.ifCond .eq 7, 3) := by decide +kernel
theorem dX3_repay_81 : decode cX3_repay 81 = .ok (.iconst 0, 1) := by decide +kernel
theorem dX3_repay_82 : decode cX3_repay 82 = .ok (.goto 4, 3) := by decide +kernel
theorem dX3_repay_85 : decode cX3_repay 85 = .ok (.iconst 3, 1) := by decide +kernel
theorem dX3_repay_86 : decode cX3_repay 86 = .ok (.invokevirtual 86, 3) := by decide +kernel
theorem dX3_repay_89 : decode cX3_repay 89 = .ok (.ifCond .eq 5, 3) := by decide +kernel
theorem dX3_repay_92 : decode cX3_repay 92 = .ok (.iconst 0, 1) := by decide +kernel
theorem dX3_repay_93 : decode cX3_repay 93 = .ok (.ireturn, 1) := by decide +kernel
theorem dX3_repay_94 : decode cX3_repay 94 = .ok (.aload_n 0, 1) := by decide +kernel
theorem dX3_repay_95 : decode cX3_repay 95 = .ok (.getfield 22, 3) := by decide +kernel
theorem dX3_repay_98 : decode cX3_repay 98 = .ok (.iload_n 1, 1) := by decide +kernel
theorem dX3_repay_99 : decode cX3_repay 99 = .ok (.dup2, 1) := by decide +kernel
theorem dX3_repay_100 : decode cX3_repay 100 = .ok (.iaload, 1) := by decide +kernel
theorem dX3_repay_101 : decode cX3_repay 101 = .ok (.iload_n 2, 1) := by decide +kernel
theorem dX3_repay_102 : decode cX3_repay 102 = .ok (.isub, 1) := by decide +kernel
theorem dX3_repay_103 : decode cX3_repay 103 = .ok (.iastore, 1) := by decide +kernel
theorem dX3_repay_104 : decode cX3_repay 104 = .ok (.aload_n 0, 1) := by decide +kernel
theorem dX3_repay_105 : decode cX3_repay 105 = .ok (.iload_n 1, 1) := by decide +kernel
theorem dX3_repay_106 : decode cX3_repay 106 = .ok (.iload_n 2, 1) := by decide +kernel
theorem dX3_repay_107 : decode cX3_repay 107 = .ok (.iconst 0, 1) := by decide +kernel
theorem dX3_repay_108 : decode cX3_repay 108 = .ok (.invokevirtual 97, 3) := by decide +kernel
theorem dX3_repay_111 : decode cX3_repay 111 = .ok (.aload_n 0, 1) := by decide +kernel
theorem dX3_repay_112 : decode cX3_repay 112 = .ok (.getfield 25, 3) := by decide +kernel
theorem dX3_repay_115 : decode cX3_repay 115 = .ok (.iload_n 1, 1) := by decide +kernel
theorem dX3_repay_116 : decode cX3_repay 116 = .ok (.iaload, 1) := by decide +kernel
theorem dX3_repay_117 : decode cX3_repay 117 = .ok (.ireturn, 1) := by decide +kernel
set_option maxRecDepth 20000 in
theorem ggX3_settle_X3_lower : GoodIn wsX3_settle wsX3_lower := goodIn_r _ [9, 2, 10, 11, 12, 13, 14, 15, 16, 17, 18, 19, 20, 21, 22, 23, 24, 25, 26, 27, 28, 29, 30, 31, 32, 33, 34] (by decide +kernel) (by decide +kernel)
set_option maxRecDepth 20000 in
theorem gX3_settle_X3_lower : GoodIn wsX3_settle (wsV RX3 97 RX3 yX3_lower wsX3_lower) := goodIn_app (goodIn_of _ (by decide +kernel)) ggX3_settle_X3_lower
theorem dX3_settle_0 : decode cX3_settle 0 = .ok (.aload_n 0, 1) := by decide +kernel
theorem dX3_settle_1 : decode cX3_settle 1 = .ok (.getfield 40, 3) := by decide +kernel
theorem dX3_settle_4 : decode cX3_settle 4 = .ok (.iload_n 1, 1) := by decide +kernel
theorem dX3_settle_5 : decode cX3_settle 5 = .ok (.iaload, 1) := by decide +kernel
theorem dX3_settle_6 : decode cX3_settle 6 = .ok (.ifCond .le 70, 3) := by decide +kernel
theorem dX3_settle_9 : decode cX3_settle 9 = .ok (.aload_n 0, 1) := by decide +kernel
theorem dX3_settle_10 : decode cX3_settle 10 = .ok (.getfield 25, 3) := by decide +kernel
theorem dX3_settle_13 : decode cX3_settle 13 = .ok (.iload_n 1, 1) := by decide +kernel
theorem dX3_settle_14 : decode cX3_settle 14 = .ok (.dup2, 1) := by decide +kernel
theorem dX3_settle_15 : decode cX3_settle 15 = .ok (.iaload, 1) := by decide +kernel
theorem dX3_settle_16 : decode cX3_settle 16 = .ok (.aload_n 0, 1) := by decide +kernel
theorem dX3_settle_17 : decode cX3_settle 17 = .ok (.getfield 43, 3) := by decide +kernel
theorem dX3_settle_20 : decode cX3_settle 20 = .ok (.iconst 3, 1) := by decide +kernel
theorem dX3_settle_21 : decode cX3_settle 21 = .ok (.iload_n 1, 1) := by decide +kernel
theorem dX3_settle_22 : decode cX3_settle 22 = .ok (.imul, 1) := by decide +kernel
theorem dX3_settle_23 : decode cX3_settle 23 = .ok (.iaload, 1) := by decide +kernel
theorem dX3_settle_24 : decode cX3_settle 24 = .ok (.iadd, 1) := by decide +kernel
theorem dX3_settle_25 : decode cX3_settle 25 = .ok (.iastore, 1) := by decide +kernel
theorem dX3_settle_26 : decode cX3_settle 26 = .ok (.iconst 1, 1) := by decide +kernel
theorem dX3_settle_27 : decode cX3_settle 27 = .ok (.istore_n 2, 1) := by decide +kernel
theorem dX3_settle_28 : decode cX3_settle 28 = .ok (.iload_n 2, 1) := by decide +kernel
theorem dX3_settle_29 : decode cX3_settle 29 = .ok (.aload_n 0, 1) := by decide +kernel
theorem dX3_settle_30 : decode cX3_settle 30 = .ok (.getfield 40, 3) := by decide +kernel
theorem dX3_settle_33 : decode cX3_settle 33 = .ok (.iload_n 1, 1) := by decide +kernel
theorem dX3_settle_34 : decode cX3_settle 34 = .ok (.iaload, 1) := by decide +kernel
theorem dX3_settle_35 : decode cX3_settle 35 = .ok (.if_icmp .ge 31, 3) := by decide +kernel
theorem dX3_settle_38 : decode cX3_settle 38 = .ok (.aload_n 0, 1) := by decide +kernel
theorem dX3_settle_39 : decode cX3_settle 39 = .ok (.getfield 43, 3) := by decide +kernel
theorem dX3_settle_42 : decode cX3_settle 42 = .ok (.iconst 3, 1) := by decide +kernel
theorem dX3_settle_43 : decode cX3_settle 43 = .ok (.iload_n 1, 1) := by decide +kernel
theorem dX3_settle_44 : decode cX3_settle 44 = .ok (.imul, 1) := by decide +kernel
theorem dX3_settle_45 : decode cX3_settle 45 = .ok (.iload_n 2, 1) := by decide +kernel
theorem dX3_settle_46 : decode cX3_settle 46 = .ok (.iadd, 1) := by decide +kernel
theorem dX3_settle_47 : decode cX3_settle 47 = .ok (.iconst 1, 1) := by decide +kernel
theorem dX3_settle_48 : decode cX3_settle 48 = .ok (.isub, 1) := by decide +kernel
theorem dX3_settle_49 : decode cX3_settle 49 = .ok (.aload_n 0, 1) := by decide +kernel
theorem dX3_settle_50 : decode cX3_settle 50 = .ok (.getfield 43, 3) := by decide +kernel
theorem dX3_settle_53 : decode cX3_settle 53 = .ok (.iconst 3, 1) := by decide +kernel
theorem dX3_settle_54 : decode cX3_settle 54 = .ok (.iload_n 1, 1) := by decide +kernel
theorem dX3_settle_55 : decode cX3_settle 55 = .ok (.imul, 1) := by decide +kernel
theorem dX3_settle_56 : decode cX3_settle 56 = .ok (.iload_n 2, 1) := by decide +kernel
theorem dX3_settle_57 : decode cX3_settle 57 = .ok (.iadd, 1) := by decide +kernel
theorem dX3_settle_58 : decode cX3_settle 58 = .ok (.iaload, 1) := by decide +kernel
theorem dX3_settle_59 : decode cX3_settle 59 = .ok (.iastore, 1) := by decide +kernel
theorem dX3_settle_60 : decode cX3_settle 60 = .ok (.iinc 2 1, 3) := by decide +kernel
theorem dX3_settle_63 : decode cX3_settle 63 = .ok (.goto (-35), 3) := by decide +kernel
theorem dX3_settle_66 : decode cX3_settle 66 = .ok (.aload_n 0, 1) := by decide +kernel
theorem dX3_settle_67 : decode cX3_settle 67 = .ok (.getfield 40, 3) := by decide +kernel
theorem dX3_settle_70 : decode cX3_settle 70 = .ok (.iload_n 1, 1) := by decide +kernel
theorem dX3_settle_71 : decode cX3_settle 71 = .ok (.dup2, 1) := by decide +kernel
theorem dX3_settle_72 : decode cX3_settle 72 = .ok (.iaload, 1) := by decide +kernel
theorem dX3_settle_73 : decode cX3_settle 73 = .ok (.iconst 1, 1) := by decide +kernel
theorem dX3_settle_74 : decode cX3_settle 74 = .ok (.isub, 1) := by decide +kernel
theorem dX3_settle_75 : decode cX3_settle 75 = .ok (.iastore, 1) := by decide +kernel
theorem dX3_settle_76 : decode cX3_settle 76 = .ok (.aload_n 0, 1) := by decide +kernel
theorem dX3_settle_77 : decode cX3_settle 77 = .ok (.getfield 22, 3) := by decide +kernel
theorem dX3_settle_80 : decode cX3_settle 80 = .ok (.iload_n 1, 1) := by decide +kernel
theorem dX3_settle_81 : decode cX3_settle 81 = .ok (.iaload, 1) := by decide +kernel
theorem dX3_settle_82 : decode cX3_settle 82 = .ok (.aload_n 0, 1) := by decide +kernel
theorem dX3_settle_83 : decode cX3_settle 83 = .ok (.getfield 25, 3) := by decide +kernel
theorem dX3_settle_86 : decode cX3_settle 86 = .ok (.iload_n 1, 1) := by decide +kernel
theorem dX3_settle_87 : decode cX3_settle 87 = .ok (.iaload, 1) := by decide +kernel
theorem dX3_settle_88 : decode cX3_settle 88 = .ok (.if_icmp .ge 12, 3) := by decide +kernel
theorem dX3_settle_91 : decode cX3_settle 91 = .ok (.aload_n 0, 1) := by decide +kernel
theorem dX3_settle_92 : decode cX3_settle 92 = .ok (.getfield 22, 3) := by decide +kernel
theorem dX3_settle_95 : decode cX3_settle 95 = .ok (.iload_n 1, 1) := by decide +kernel
theorem dX3_settle_96 : decode cX3_settle 96 = .ok (.iaload, 1) := by decide +kernel
theorem dX3_settle_97 : decode cX3_settle 97 = .ok (.goto 9, 3) := by decide +kernel
theorem dX3_settle_100 : decode cX3_settle 100 = .ok (.aload_n 0, 1) := by decide +kernel
theorem dX3_settle_101 : decode cX3_settle 101 = .ok (.getfield 25, 3) := by decide +kernel
theorem dX3_settle_104 : decode cX3_settle 104 = .ok (.iload_n 1, 1) := by decide +kernel
theorem dX3_settle_105 : decode cX3_settle 105 = .ok (.iaload, 1) := by decide +kernel
theorem dX3_settle_106 : decode cX3_settle 106 = .ok (.istore_n 2, 1) := by decide +kernel
theorem dX3_settle_107 : decode cX3_settle 107 = .ok (.aload_n 0, 1) := by decide +kernel
theorem dX3_settle_108 : decode cX3_settle 108 = .ok (.getfield 22, 3) := by decide +kernel
theorem dX3_settle_111 : decode cX3_settle 111 = .ok (.iload_n 1, 1) := by decide +kernel
theorem dX3_settle_112 : decode cX3_settle 112 = .ok (.dup2, 1) := by decide +kernel
theorem dX3_settle_113 : decode cX3_settle 113 = .ok (.iaload, 1) := by decide +kernel
theorem dX3_settle_114 : decode cX3_settle 114 = .ok (.iload_n 2, 1) := by decide +kernel
theorem dX3_settle_115 : decode cX3_settle 115 = .ok (.isub, 1) := by decide +kernel
theorem dX3_settle_116 : decode cX3_settle 116 = .ok (.iastore, 1) := by decide +kernel
theorem dX3_settle_117 : decode cX3_settle 117 = .ok (.aload_n 0, 1) := by decide +kernel
theorem dX3_settle_118 : decode cX3_settle 118 = .ok (.iload_n 1, 1) := by decide +kernel
theorem dX3_settle_119 : decode cX3_settle 119 = .ok (.iload_n 2, 1) := by decide +kernel
theorem dX3_settle_120 : decode cX3_settle 120 = .ok (.iconst 0, 1) := by decide +kernel
theorem dX3_settle_121 : decode cX3_settle 121 = .ok (.invokevirtual 97, 3) := by decide +kernel
theorem dX3_settle_124 : decode cX3_settle 124 = .ok (.return_, 1) := by decide +kernel
theorem dX3_roll_0 : decode cX3_roll 0 = .ok (.aload_n 0, 1) := by decide +kernel
theorem dX3_roll_1 : decode cX3_roll 1 = .ok (.getfield 25, 3) := by decide +kernel
theorem dX3_roll_4 : decode cX3_roll 4 = .ok (.iload_n 1, 1) := by decide +kernel
theorem dX3_roll_5 : decode cX3_roll 5 = .ok (.iaload, 1) := by decide +kernel
theorem dX3_roll_6 : decode cX3_roll 6 = .ok (.iconst 3, 1) := by decide +kernel
theorem dX3_roll_7 : decode cX3_roll 7 = .ok (.idiv, 1) := by decide +kernel
theorem dX3_roll_8 : decode cX3_roll 8 = .ok (.istore_n 2, 1) := by decide +kernel
theorem dX3_roll_9 : decode cX3_roll 9 = .ok (.aload_n 0, 1) := by decide +kernel
theorem dX3_roll_10 : decode cX3_roll 10 = .ok (.getfield 43, 3) := by decide +kernel
theorem dX3_roll_13 : decode cX3_roll 13 = .ok (.iconst 3, 1) := by decide +kernel
theorem dX3_roll_14 : decode cX3_roll 14 = .ok (.iload_n 1, 1) := by decide +kernel
theorem dX3_roll_15 : decode cX3_roll 15 = .ok (.imul, 1) := by decide +kernel
theorem dX3_roll_16 : decode cX3_roll 16 = .ok (.iload_n 2, 1) := by decide +kernel
theorem dX3_roll_17 : decode cX3_roll 17 = .ok (.iastore, 1) := by decide +kernel
theorem dX3_roll_18 : decode cX3_roll 18 = .ok (.aload_n 0, 1) := by decide +kernel
theorem dX3_roll_19 : decode cX3_roll 19 = .ok (.getfield 43, 3) := by decide +kernel
theorem dX3_roll_22 : decode cX3_roll 22 = .ok (.iconst 3, 1) := by decide +kernel
theorem dX3_roll_23 : decode cX3_roll 23 = .ok (.iload_n 1, 1) := by decide +kernel
theorem dX3_roll_24 : decode cX3_roll 24 = .ok (.imul, 1) := by decide +kernel
theorem dX3_roll_25 : decode cX3_roll 25 = .ok (.iconst 1, 1) := by decide +kernel
theorem dX3_roll_26 : decode cX3_roll 26 = .ok (.iadd, 1) := by decide +kernel
theorem dX3_roll_27 : decode cX3_roll 27 = .ok (.iload_n 2, 1) := by decide +kernel
theorem dX3_roll_28 : decode cX3_roll 28 = .ok (.iastore, 1) := by decide +kernel
theorem dX3_roll_29 : decode cX3_roll 29 = .ok (.aload_n 0, 1) := by decide +kernel
theorem dX3_roll_30 : decode cX3_roll 30 = .ok (.getfield 43, 3) := by decide +kernel
theorem dX3_roll_33 : decode cX3_roll 33 = .ok (.iconst 3, 1) := by decide +kernel
theorem dX3_roll_34 : decode cX3_roll 34 = .ok (.iload_n 1, 1) := by decide +kernel
theorem dX3_roll_35 : decode cX3_roll 35 = .ok (.imul, 1) := by decide +kernel
theorem dX3_roll_36 : decode cX3_roll 36 = .ok (.iconst 2, 1) := by decide +kernel
theorem dX3_roll_37 : decode cX3_roll 37 = .ok (.iadd, 1) := by decide +kernel
theorem dX3_roll_38 : decode cX3_roll 38 = .ok (.aload_n 0, 1) := by decide +kernel
theorem dX3_roll_39 : decode cX3_roll 39 = .ok (.getfield 25, 3) := by decide +kernel
theorem dX3_roll_42 : decode cX3_roll 42 = .ok (.iload_n 1, 1) := by decide +kernel
theorem dX3_roll_43 : decode cX3_roll 43 = .ok (.iaload, 1) := by decide +kernel
theorem dX3_roll_44 : decode cX3_roll 44 = .ok (.iconst 2, 1) := by decide +kernel
theorem dX3_roll_45 : decode cX3_roll 45 = .ok (.iload_n 2, 1) := by decide +kernel
theorem dX3_roll_46 : decode cX3_roll 46 = .ok (.imul, 1) := by decide +kernel
theorem dX3_roll_47 : decode cX3_roll 47 = .ok (.isub, 1) := by decide +kernel
theorem dX3_roll_48 : decode cX3_roll 48 = .ok (.iastore, 1) := by decide +kernel
theorem dX3_roll_49 : decode cX3_roll 49 = .ok (.aload_n 0, 1) := by decide +kernel
theorem dX3_roll_50 : decode cX3_roll 50 = .ok (.getfield 40, 3) := by decide +kernel
theorem dX3_roll_53 : decode cX3_roll 53 = .ok (.iload_n 1, 1) := by decide +kernel
theorem dX3_roll_54 : decode cX3_roll 54 = .ok (.iconst 3, 1) := by decide +kernel
theorem dX3_roll_55 : decode cX3_roll 55 = .ok (.iastore, 1) := by decide +kernel
theorem dX3_roll_56 : decode cX3_roll 56 = .ok (.aload_n 0, 1) := by decide +kernel
theorem dX3_roll_57 : decode cX3_roll 57 = .ok (.getfield 25, 3) := by decide +kernel
theorem dX3_roll_60 : decode cX3_roll 60 = .ok (.iload_n 1, 1) := by decide +kernel
theorem dX3_roll_61 : decode cX3_roll 61 = .ok (.iconst 0, 1) := by decide +kernel
theorem dX3_roll_62 : decode cX3_roll 62 = .ok (.iastore, 1) := by decide +kernel
theorem dX3_roll_63 : decode cX3_roll 63 = .ok (.return_, 1) := by decide +kernel
set_option maxRecDepth 20000 in
theorem ggX3_call_X3_lower : GoodIn wsX3_call wsX3_lower := goodIn_r _ [10, 5, 11, 12, 13, 14, 15, 16, 17, 18, 19, 20, 21, 22, 23, 24, 25, 26, 27, 28, 29, 30, 31, 32, 33, 34, 35] (by decide +kernel) (by decide +kernel)
set_option maxRecDepth 20000 in
theorem gX3_call_X3_lower : GoodIn wsX3_call (wsV RX3 97 RX3 yX3_lower wsX3_lower) := goodIn_app (goodIn_of _ (by decide +kernel)) ggX3_call_X3_lower
theorem dX3_call_0 : decode cX3_call 0 = .ok (.iconst 0, 1) := by decide +kernel
theorem dX3_call_1 : decode cX3_call 1 = .ok (.istore_n 2, 1) := by decide +kernel
theorem dX3_call_2 : decode cX3_call 2 = .ok (.iload_n 2, 1) := by decide +kernel
theorem dX3_call_3 : decode cX3_call 3 = .ok (.aload_n 0, 1) := by decide +kernel
theorem dX3_call_4 : decode cX3_call 4 = .ok (.getfield 78, 3) := by decide +kernel
theorem dX3_call_7 : decode cX3_call 7 = .ok (.if_icmp .ge 116, 3) := by decide +kernel
theorem dX3_call_10 : decode cX3_call 10 = .ok (.iload_n 2, 1) := by decide +kernel
theorem dX3_call_11 : decode cX3_call 11 = .ok (.iload_n 1, 1) := by decide +kernel
theorem dX3_call_12 : decode cX3_call 12 = .ok (.if_icmp .eq 105, 3) := by decide +kernel
theorem dX3_call_15 : decode cX3_call 15 = .ok (.aload_n 0, 1) := by decide +kernel
theorem dX3_call_16 : decode cX3_call 16 = .ok (.getfield 19, 3) := by decide +kernel
theorem dX3_call_19 : decode cX3_call 19 = .ok (.iload_n 2, 1) := by decide +kernel
theorem dX3_call_20 : decode cX3_call 20 = .ok (.iaload, 1) := by decide +kernel
theorem dX3_call_21 : decode cX3_call 21 = .ok (.aload_n 0, 1) := by decide +kernel
theorem dX3_call_22 : decode cX3_call 22 = .ok (.getfield 19, 3) := by decide +kernel
theorem dX3_call_25 : decode cX3_call 25 = .ok (.iload_n 1, 1) := by decide +kernel
theorem dX3_call_26 : decode cX3_call 26 = .ok (.iaload, 1) := by decide +kernel
theorem dX3_call_27 : decode cX3_call 27 = .ok (.if_icmp .ne 90, 3) := by decide +kernel
theorem dX3_call_30 : decode cX3_call 30 = .ok (.sipush 20000, 3) := by decide +kernel
theorem dX3_call_33 : decode cX3_call 33 = .ok (.aload_n 0, 1) := by decide +kernel
theorem dX3_call_34 : decode cX3_call 34 = .ok (.getfield 61, 3) := by decide +kernel
theorem dX3_call_37 : decode cX3_call 37 = .ok (.iload_n 2, 1) := by decide +kernel
theorem dX3_call_38 : decode cX3_call 38 = .ok (.iaload, 1) := by decide +kernel
theorem dX3_call_39 : decode cX3_call 39 = .ok (.isub, 1) := by decide +kernel
theorem dX3_call_40 : decode cX3_call 40 = .ok (.istore_n 3, 1) := by decide +kernel
theorem dX3_call_41 : decode cX3_call 41 = .ok (.aload_n 0, 1) := by decide +kernel
theorem dX3_call_42 : decode cX3_call 42 = .ok (.getfield 22, 3) := by decide +kernel
theorem dX3_call_45 : decode cX3_call 45 = .ok (.iload_n 2, 1) := by decide +kernel
theorem dX3_call_46 : decode cX3_call 46 = .ok (.iaload, 1) := by decide +kernel
theorem dX3_call_47 : decode cX3_call 47 = .ok (.iload_n 3, 1) := by decide +kernel
theorem dX3_call_48 : decode cX3_call 48 = .ok (.if_icmp .ge 12, 3) := by decide +kernel
theorem dX3_call_51 : decode cX3_call 51 = .ok (.aload_n 0, 1) := by decide +kernel
theorem dX3_call_52 : decode cX3_call 52 = .ok (.getfield 22, 3) := by decide +kernel
theorem dX3_call_55 : decode cX3_call 55 = .ok (.iload_n 2, 1) := by decide +kernel
theorem dX3_call_56 : decode cX3_call 56 = .ok (.iaload, 1) := by decide +kernel
theorem dX3_call_57 : decode cX3_call 57 = .ok (.goto 4, 3) := by decide +kernel
theorem dX3_call_60 : decode cX3_call 60 = .ok (.iload_n 3, 1) := by decide +kernel
theorem dX3_call_61 : decode cX3_call 61 = .ok (.istore 4, 2) := by decide +kernel
theorem dX3_call_63 : decode cX3_call 63 = .ok (.aload_n 0, 1) := by decide +kernel
theorem dX3_call_64 : decode cX3_call 64 = .ok (.getfield 25, 3) := by decide +kernel
theorem dX3_call_67 : decode cX3_call 67 = .ok (.iload_n 1, 1) := by decide +kernel
theorem dX3_call_68 : decode cX3_call 68 = .ok (.iaload, 1) := by decide +kernel
theorem dX3_call_69 : decode cX3_call 69 = .ok (.iload 4, 2) := by decide +kernel
theorem dX3_call_71 : decode cX3_call 71 = .ok (.if_icmp .ge 12, 3) := by decide +kernel
theorem dX3_call_74 : decode cX3_call 74 = .ok (.aload_n 0, 1) := by decide +kernel
theorem dX3_call_75 : decode cX3_call 75 = .ok (.getfield 25, 3) := by decide +kernel
theorem dX3_call_78 : decode cX3_call 78 = .ok (.iload_n 1, 1) := by decide +kernel
theorem dX3_call_79 : decode cX3_call 79 = .ok (.iaload, 1) := by decide +kernel
theorem dX3_call_80 : decode cX3_call 80 = .ok (.goto 5, 3) := by decide +kernel
theorem dX3_call_83 : decode cX3_call 83 = .ok (.iload 4, 2) := by decide +kernel
theorem dX3_call_85 : decode cX3_call 85 = .ok (.istore 4, 2) := by decide +kernel
theorem dX3_call_87 : decode cX3_call 87 = .ok (.aload_n 0, 1) := by decide +kernel
theorem dX3_call_88 : decode cX3_call 88 = .ok (.getfield 22, 3) := by decide +kernel
theorem dX3_call_91 : decode cX3_call 91 = .ok (.iload_n 2, 1) := by decide +kernel
theorem dX3_call_92 : decode cX3_call 92 = .ok (.dup2, 1) := by decide +kernel
theorem dX3_call_93 : decode cX3_call 93 = .ok (.iaload, 1) := by decide +kernel
theorem dX3_call_94 : decode cX3_call 94 = .ok (.iload 4, 2) := by decide +kernel
theorem dX3_call_96 : decode cX3_call 96 = .ok (.isub, 1) := by decide +kernel
theorem dX3_call_97 : decode cX3_call 97 = .ok (.iastore, 1) := by decide +kernel
theorem dX3_call_98 : decode cX3_call 98 = .ok (.aload_n 0, 1) := by decide +kernel
theorem dX3_call_99 : decode cX3_call 99 = .ok (.getfield 61, 3) := by decide +kernel
theorem dX3_call_102 : decode cX3_call 102 = .ok (.iload_n 2, 1) := by decide +kernel
theorem dX3_call_103 : decode cX3_call 103 = .ok (.dup2, 1) := by decide +kernel
theorem dX3_call_104 : decode cX3_call 104 = .ok (.iaload, 1) := by decide +kernel
theorem dX3_call_105 : decode cX3_call 105 = .ok (.iload 4, 2) := by decide +kernel
theorem dX3_call_107 : decode cX3_call 107 = .ok (.iadd, 1) := by decide +kernel
theorem dX3_call_108 : decode cX3_call 108 = .ok (.iastore, 1) := by decide +kernel
theorem dX3_call_109 : decode cX3_call 109 = .ok (.aload_n 0, 1) := by decide +kernel
theorem dX3_call_110 : decode cX3_call 110 = .ok (.iload_n 1, 1) := by decide +kernel
theorem dX3_call_111 : decode cX3_call 111 = .ok (.iload 4, 2) := by decide +kernel
theorem dX3_call_113 : decode cX3_call 113 = .ok (.iconst 4, 1) := by decide +kernel
theorem dX3_call_114 : decode cX3_call 114 = .ok (.invokevirtual 97, 3) := by decide +kernel
theorem dX3_call_117 : decode cX3_call 117 = .ok (.iinc 2 1, 3) := by decide +kernel
theorem dX3_call_120 : decode cX3_call 120 = .ok (.goto (-118), 3) := by decide +kernel
theorem dX3_call_123 : decode cX3_call 123 = .ok (.return_, 1) := by decide +kernel
set_option maxRecDepth 20000 in
theorem ggX3_close_X3_refused : GoodIn wsX3_close wsX3_refused := goodIn_r _ [13, 14, 42, 43, 44, 45, 46, 47, 48, 49, 50, 51, 52, 53, 54, 55, 56, 57, 58, 59, 60, 61, 62, 63, 64, 65] (by decide +kernel) (by decide +kernel)
set_option maxRecDepth 20000 in
theorem gX3_close_X3_refused : GoodIn wsX3_close (wsV RX3 86 RX3 yX3_refused wsX3_refused) := goodIn_app (goodIn_of _ (by decide +kernel)) ggX3_close_X3_refused
set_option maxRecDepth 20000 in
theorem ggX3_close_X3_settle : GoodIn wsX3_close wsX3_settle := goodIn_r _ [18, 7, 8, 19, 20, 21, 22, 23, 12, 24, 25, 42, 43, 44, 45, 46, 47, 48, 49, 50, 51, 52, 53, 54, 55, 56, 57, 58, 59, 60, 61, 62, 63, 64, 65] (by decide +kernel) (by decide +kernel)
set_option maxRecDepth 20000 in
theorem gX3_close_X3_settle : GoodIn wsX3_close (wsV RX3 131 RX3 yX3_settle wsX3_settle) := goodIn_app (goodIn_of _ (by decide +kernel)) ggX3_close_X3_settle
set_option maxRecDepth 20000 in
theorem ggX3_close_X3_roll : GoodIn wsX3_close wsX3_roll := goodIn_r _ [29, 8, 19, 7, 42, 43, 44, 45, 46, 47, 48, 49, 50, 51, 52, 53, 54, 55, 56, 57, 58, 59, 60, 61, 62, 63, 64, 65] (by decide +kernel) (by decide +kernel)
set_option maxRecDepth 20000 in
theorem gX3_close_X3_roll : GoodIn wsX3_close (wsV RX3 134 RX3 yX3_roll wsX3_roll) := goodIn_app (goodIn_of _ (by decide +kernel)) ggX3_close_X3_roll
set_option maxRecDepth 20000 in
theorem ggX3_close_X3_call : GoodIn wsX3_close wsX3_call := goodIn_r _ [33, 3, 34, 4, 20, 8, 21, 22, 23, 12, 24, 25, 42, 43, 44, 45, 46, 47, 48, 49, 50, 51, 52, 53, 54, 55, 56, 57, 58, 59, 60, 61, 62, 63, 64, 65] (by decide +kernel) (by decide +kernel)
set_option maxRecDepth 20000 in
theorem gX3_close_X3_call : GoodIn wsX3_close (wsV RX3 137 RX3 yX3_call wsX3_call) := goodIn_app (goodIn_of _ (by decide +kernel)) ggX3_close_X3_call
set_option maxRecDepth 20000 in
theorem ggX3_close_X3_clear : GoodIn wsX3_close wsX3_clear := goodIn_r _ [38, 5, 39, 40, 41, 6, 42, 43, 44, 45, 46, 47, 48, 49, 50, 51, 52, 53, 54, 55, 56, 57, 58, 59, 60, 61, 62, 63, 64, 65] (by decide +kernel) (by decide +kernel)
set_option maxRecDepth 20000 in
theorem gX3_close_X3_clear : GoodIn wsX3_close (wsV RX3 89 RX3 yX3_clear wsX3_clear) := goodIn_app (goodIn_of _ (by decide +kernel)) ggX3_close_X3_clear
theorem dX3_close_0 : decode cX3_close 0 = .ok (.aload_n 0, 1) := by decide +kernel
theorem dX3_close_1 : decode cX3_close 1 = .ok (.aload_n 0, 1) := by decide +kernel
theorem dX3_close_2 : decode cX3_close 2 = .ok (.getfield 101, 3) := by decide +kernel
theorem dX3_close_5 : decode cX3_close 5 = .ok (.iconst 4, 1) := by decide +kernel
theorem dX3_close_6 : decode cX3_close 6 = .ok (.if_icmp .ne 12, 3) := by decide +kernel
theorem dX3_close_9 : decode cX3_close 9 = .ok (.aload_n 0, 1) := by decide +kernel
theorem dX3_close_10 : decode cX3_close 10 = .ok (.getfield 128, 3) := by decide +kernel
theorem dX3_close_13 : decode cX3_close 13 = .ok (.bipush 20, 2) := by decide +kernel
theorem dX3_close_15 : decode cX3_close 15 = .ok (.if_icmp .ne 7, 3) := by decide +kernel
theorem dX3_close_18 : decode cX3_close 18 = .ok (.iconst 1, 1) := by decide +kernel
theorem dX3_close_19 : decode cX3_close 19 = .ok (.goto 4, 3) := by decide +kernel
theorem dX3_close_22 : decode cX3_close 22 = .ok (.iconst 0, 1) := by decide +kernel
theorem dX3_close_23 : decode cX3_close 23 = .ok (.invokevirtual 86, 3) := by decide +kernel
theorem dX3_close_26 : decode cX3_close 26 = .ok (.ifCond .eq 5, 3) := by decide +kernel
theorem dX3_close_29 : decode cX3_close 29 = .ok (.iconst 0, 1) := by decide +kernel
theorem dX3_close_30 : decode cX3_close 30 = .ok (.ireturn, 1) := by decide +kernel
theorem dX3_close_31 : decode cX3_close 31 = .ok (.iconst 0, 1) := by decide +kernel
theorem dX3_close_32 : decode cX3_close 32 = .ok (.istore_n 1, 1) := by decide +kernel
theorem dX3_close_33 : decode cX3_close 33 = .ok (.iload_n 1, 1) := by decide +kernel
theorem dX3_close_34 : decode cX3_close 34 = .ok (.aload_n 0, 1) := by decide +kernel
theorem dX3_close_35 : decode cX3_close 35 = .ok (.getfield 78, 3) := by decide +kernel
theorem dX3_close_38 : decode cX3_close 38 = .ok (.if_icmp .ge 21, 3) := by decide +kernel
theorem dX3_close_41 : decode cX3_close 41 = .ok (.aload_n 0, 1) := by decide +kernel
theorem dX3_close_42 : decode cX3_close 42 = .ok (.iload_n 1, 1) := by decide +kernel
theorem dX3_close_43 : decode cX3_close 43 = .ok (.invokevirtual 131, 3) := by decide +kernel
theorem dX3_close_46 : decode cX3_close 46 = .ok (.aload_n 0, 1) := by decide +kernel
theorem dX3_close_47 : decode cX3_close 47 = .ok (.getfield 61, 3) := by decide +kernel
theorem dX3_close_50 : decode cX3_close 50 = .ok (.iload_n 1, 1) := by decide +kernel
theorem dX3_close_51 : decode cX3_close 51 = .ok (.iconst 0, 1) := by decide +kernel
theorem dX3_close_52 : decode cX3_close 52 = .ok (.iastore, 1) := by decide +kernel
theorem dX3_close_53 : decode cX3_close 53 = .ok (.iinc 1 1, 3) := by decide +kernel
theorem dX3_close_56 : decode cX3_close 56 = .ok (.goto (-23), 3) := by decide +kernel
theorem dX3_close_59 : decode cX3_close 59 = .ok (.iconst 0, 1) := by decide +kernel
theorem dX3_close_60 : decode cX3_close 60 = .ok (.istore_n 1, 1) := by decide +kernel
theorem dX3_close_61 : decode cX3_close 61 = .ok (.iload_n 1, 1) := by decide +kernel
theorem dX3_close_62 : decode cX3_close 62 = .ok (.aload_n 0, 1) := by decide +kernel
theorem dX3_close_63 : decode cX3_close 63 = .ok (.getfield 78, 3) := by decide +kernel
theorem dX3_close_66 : decode cX3_close 66 = .ok (.if_icmp .ge 80, 3) := by decide +kernel
theorem dX3_close_69 : decode cX3_close 69 = .ok (.aload_n 0, 1) := by decide +kernel
theorem dX3_close_70 : decode cX3_close 70 = .ok (.getfield 46, 3) := by decide +kernel
theorem dX3_close_73 : decode cX3_close 73 = .ok (.iload_n 1, 1) := by decide +kernel
theorem dX3_close_74 : decode cX3_close 74 = .ok (.iaload, 1) := by decide +kernel
theorem dX3_close_75 : decode cX3_close 75 = .ok (.iconst (-1), 1) := by decide +kernel
theorem dX3_close_76 : decode cX3_close 76 = .ok (.if_icmp .eq 27, 3) := by decide +kernel
theorem dX3_close_79 : decode cX3_close 79 = .ok (.aload_n 0, 1) := by decide +kernel
theorem dX3_close_80 : decode cX3_close 80 = .ok (.getfield 58, 3) := by decide +kernel
theorem dX3_close_83 : decode cX3_close 83 = .ok (.iload_n 1, 1) := by decide +kernel
theorem dX3_close_84 : decode cX3_close 84 = .ok (.iaload, 1) := by decide +kernel
theorem dX3_close_85 : decode cX3_close 85 = .ok (.bipush 60, 2) := by decide +kernel
theorem dX3_close_87 : decode cX3_close 87 = .ok (.if_icmp .ge 16, 3) := by decide +kernel
theorem dX3_close_90 : decode cX3_close 90 = .ok (.aload_n 0, 1) := by decide +kernel
theorem dX3_close_91 : decode cX3_close 91 = .ok (.getfield 40, 3) := by decide +kernel
theorem dX3_close_94 : decode cX3_close 94 = .ok (.iload_n 1, 1) := by decide +kernel
theorem dX3_close_95 : decode cX3_close 95 = .ok (.iaload, 1) := by decide +kernel
theorem dX3_close_96 : decode cX3_close 96 = .ok (.ifCond .ne 7, 3) := by decide +kernel
theorem dX3_close_99 : decode cX3_close 99 = .ok (.iconst 1, 1) := by decide +kernel
theorem dX3_close_100 : decode cX3_close 100 = .ok (.goto 4, 3) := by decide +kernel
theorem dX3_close_103 : decode cX3_close 103 = .ok (.iconst 0, 1) := by decide +kernel
theorem dX3_close_104 : decode cX3_close 104 = .ok (.istore_n 2, 1) := by decide +kernel
theorem dX3_close_105 : decode cX3_close 105 = .ok (.aload_n 0, 1) := by decide +kernel
theorem dX3_close_106 : decode cX3_close 106 = .ok (.getfield 25, 3) := by decide +kernel
theorem dX3_close_109 : decode cX3_close 109 = .ok (.iload_n 1, 1) := by decide +kernel
theorem dX3_close_110 : decode cX3_close 110 = .ok (.iaload, 1) := by decide +kernel
theorem dX3_close_111 : decode cX3_close 111 = .ok (.ifCond .le 15, 3) := by decide +kernel
theorem dX3_close_114 : decode cX3_close 114 = .ok (.iload_n 2, 1) := by decide +kernel
theorem dX3_close_115 : decode cX3_close 115 = .ok (.ifCond .eq 11, 3) := by decide +kernel
theorem dX3_close_118 : decode cX3_close 118 = .ok (.aload_n 0, 1) := by decide +kernel
theorem dX3_close_119 : decode cX3_close 119 = .ok (.iload_n 1, 1) := by decide +kernel
theorem dX3_close_120 : decode cX3_close 120 = .ok (.invokevirtual 134, 3) := by decide +kernel
theorem dX3_close_123 : decode cX3_close 123 = .ok (.goto 17, 3) := by decide +kernel
theorem dX3_close_126 : decode cX3_close 126 = .ok (.aload_n 0, 1) := by decide +kernel
theorem dX3_close_127 : decode cX3_close 127 = .ok (.getfield 25, 3) := by decide +kernel
theorem dX3_close_130 : decode cX3_close 130 = .ok (.iload_n 1, 1) := by decide +kernel
theorem dX3_close_131 : decode cX3_close 131 = .ok (.iaload, 1) := by decide +kernel
theorem dX3_close_132 : decode cX3_close 132 = .ok (.ifCond .le 8, 3) := by decide +kernel
theorem dX3_close_135 : decode cX3_close 135 = .ok (.aload_n 0, 1) := by decide +kernel
theorem dX3_close_136 : decode cX3_close 136 = .ok (.iload_n 1, 1) := by decide +kernel
theorem dX3_close_137 : decode cX3_close 137 = .ok (.invokevirtual 137, 3) := by decide +kernel
theorem dX3_close_140 : decode cX3_close 140 = .ok (.iinc 1 1, 3) := by decide +kernel
theorem dX3_close_143 : decode cX3_close 143 = .ok (.goto (-82), 3) := by decide +kernel
theorem dX3_close_146 : decode cX3_close 146 = .ok (.iconst 0, 1) := by decide +kernel
theorem dX3_close_147 : decode cX3_close 147 = .ok (.istore_n 1, 1) := by decide +kernel
theorem dX3_close_148 : decode cX3_close 148 = .ok (.iload_n 1, 1) := by decide +kernel
theorem dX3_close_149 : decode cX3_close 149 = .ok (.aload_n 0, 1) := by decide +kernel
theorem dX3_close_150 : decode cX3_close 150 = .ok (.getfield 78, 3) := by decide +kernel
theorem dX3_close_153 : decode cX3_close 153 = .ok (.if_icmp .ge 14, 3) := by decide +kernel
theorem dX3_close_156 : decode cX3_close 156 = .ok (.aload_n 0, 1) := by decide +kernel
theorem dX3_close_157 : decode cX3_close 157 = .ok (.iload_n 1, 1) := by decide +kernel
theorem dX3_close_158 : decode cX3_close 158 = .ok (.invokevirtual 89, 3) := by decide +kernel
theorem dX3_close_161 : decode cX3_close 161 = .ok (.iinc 1 1, 3) := by decide +kernel
theorem dX3_close_164 : decode cX3_close 164 = .ok (.goto (-16), 3) := by decide +kernel
theorem dX3_close_167 : decode cX3_close 167 = .ok (.aload_n 0, 1) := by decide +kernel
theorem dX3_close_168 : decode cX3_close 168 = .ok (.dup, 1) := by decide +kernel
theorem dX3_close_169 : decode cX3_close 169 = .ok (.getfield 128, 3) := by decide +kernel
theorem dX3_close_172 : decode cX3_close 172 = .ok (.iconst 1, 1) := by decide +kernel
theorem dX3_close_173 : decode cX3_close 173 = .ok (.iadd, 1) := by decide +kernel
theorem dX3_close_174 : decode cX3_close 174 = .ok (.putfield 128, 3) := by decide +kernel
theorem dX3_close_177 : decode cX3_close 177 = .ok (.aload_n 0, 1) := by decide +kernel
theorem dX3_close_178 : decode cX3_close 178 = .ok (.iconst 0, 1) := by decide +kernel
theorem dX3_close_179 : decode cX3_close 179 = .ok (.putfield 101, 3) := by decide +kernel
theorem dX3_close_182 : decode cX3_close 182 = .ok (.aload_n 0, 1) := by decide +kernel
theorem dX3_close_183 : decode cX3_close 183 = .ok (.getfield 128, 3) := by decide +kernel
theorem dX3_close_186 : decode cX3_close 186 = .ok (.ireturn, 1) := by decide +kernel
set_option maxRecDepth 20000 in
theorem ggX3_season_X3_fine : GoodIn wsX3_season wsX3_fine := goodIn_r _ [6, 7, 8, 9, 10, 11, 12, 13, 14, 15, 16, 17, 18, 19, 20, 21, 22, 23, 24, 25, 26, 27, 28, 29, 30, 31] (by decide +kernel) (by decide +kernel)
set_option maxRecDepth 20000 in
theorem gX3_season_X3_fine : GoodIn wsX3_season (wsV RX3 93 RX3 yX3_fine wsX3_fine) := goodIn_app (goodIn_of _ (by decide +kernel)) ggX3_season_X3_fine
theorem dX3_season_0 : decode cX3_season 0 = .ok (.aload_n 0, 1) := by decide +kernel
theorem dX3_season_1 : decode cX3_season 1 = .ok (.aload_n 0, 1) := by decide +kernel
theorem dX3_season_2 : decode cX3_season 2 = .ok (.getfield 128, 3) := by decide +kernel
theorem dX3_season_5 : decode cX3_season 5 = .ok (.invokevirtual 93, 3) := by decide +kernel
theorem dX3_season_8 : decode cX3_season 8 = .ok (.ireturn, 1) := by decide +kernel
set_option maxRecDepth 20000 in
theorem ggX3_stage_X3_fine : GoodIn wsX3_stage wsX3_fine := goodIn_r _ [6, 7, 8, 9, 10, 11, 12, 13, 14, 15, 16, 17, 18, 19, 20, 21, 22, 23, 24, 25, 26, 27, 28, 29, 30, 31] (by decide +kernel) (by decide +kernel)
set_option maxRecDepth 20000 in
theorem gX3_stage_X3_fine : GoodIn wsX3_stage (wsV RX3 93 RX3 yX3_fine wsX3_fine) := goodIn_app (goodIn_of _ (by decide +kernel)) ggX3_stage_X3_fine
theorem dX3_stage_0 : decode cX3_stage 0 = .ok (.aload_n 0, 1) := by decide +kernel
theorem dX3_stage_1 : decode cX3_stage 1 = .ok (.aload_n 0, 1) := by decide +kernel
theorem dX3_stage_2 : decode cX3_stage 2 = .ok (.getfield 101, 3) := by decide +kernel
theorem dX3_stage_5 : decode cX3_stage 5 = .ok (.invokevirtual 93, 3) := by decide +kernel
theorem dX3_stage_8 : decode cX3_stage 8 = .ok (.ireturn, 1) := by decide +kernel
set_option maxRecDepth 20000 in
theorem ggX3_noFarmer_X3_isFarmer : GoodIn wsX3_noFarmer wsX3_isFarmer := goodIn_r _ [5, 6, 7, 8, 4, 9, 15, 16, 17, 18, 19, 20, 21, 22, 23, 24, 25, 26, 27, 28, 29, 30, 31, 32, 33, 34, 35, 36, 37, 38] (by decide +kernel) (by decide +kernel)
set_option maxRecDepth 20000 in
theorem gX3_noFarmer_X3_isFarmer : GoodIn wsX3_noFarmer (wsV RX3 104 RX3 yX3_isFarmer wsX3_isFarmer) := goodIn_app (goodIn_of _ (by decide +kernel)) ggX3_noFarmer_X3_isFarmer
set_option maxRecDepth 20000 in
theorem ggX3_noFarmer_X3_refused : GoodIn wsX3_noFarmer wsX3_refused := goodIn_r _ [13, 14, 15, 16, 17, 18, 19, 20, 21, 22, 23, 24, 25, 26, 27, 28, 29, 30, 31, 32, 33, 34, 35, 36, 37, 38] (by decide +kernel) (by decide +kernel)
set_option maxRecDepth 20000 in
theorem gX3_noFarmer_X3_refused : GoodIn wsX3_noFarmer (wsV RX3 86 RX3 yX3_refused wsX3_refused) := goodIn_app (goodIn_of _ (by decide +kernel)) ggX3_noFarmer_X3_refused
theorem dX3_noFarmer_0 : decode cX3_noFarmer 0 = .ok (.aload_n 0, 1) := by decide +kernel
theorem dX3_noFarmer_1 : decode cX3_noFarmer 1 = .ok (.aload_n 0, 1) := by decide +kernel
theorem dX3_noFarmer_2 : decode cX3_noFarmer 2 = .ok (.iload_n 1, 1) := by decide +kernel
theorem dX3_noFarmer_3 : decode cX3_noFarmer 3 = .ok (.invokevirtual 104, 3) := by decide +kernel
theorem dX3_noFarmer_6 : decode cX3_noFarmer 6 = .ok (.ifCond .eq 7, 3) := by decide +kernel
theorem dX3_noFarmer_9 : decode cX3_noFarmer 9 = .ok (.iconst 0, 1) := by decide +kernel
theorem dX3_noFarmer_10 : decode cX3_noFarmer 10 = .ok (.goto 4, 3) := by decide +kernel
theorem dX3_noFarmer_13 : decode cX3_noFarmer 13 = .ok (.iconst 1, 1) := by decide +kernel
theorem dX3_noFarmer_14 : decode cX3_noFarmer 14 = .ok (.invokevirtual 86, 3) := by decide +kernel
theorem dX3_noFarmer_17 : decode cX3_noFarmer 17 = .ok (.ireturn, 1) := by decide +kernel
set_option maxRecDepth 20000 in
theorem ggX3_limit_X3_noFarmer : GoodIn wsX3_limit wsX3_noFarmer := goodIn_r _ [5, 6, 7, 8, 4, 9, 10, 11, 12, 13, 14, 15, 16, 17, 18, 27, 28, 29, 30, 31, 32, 33, 34, 35, 36, 37, 38, 39, 40, 41, 42, 43, 44, 45, 46, 47, 48, 49, 50] (by decide +kernel) (by decide +kernel)
set_option maxRecDepth 20000 in
theorem gX3_limit_X3_noFarmer : GoodIn wsX3_limit (wsV RX3 140 RX3 yX3_noFarmer wsX3_noFarmer) := goodIn_app (goodIn_of _ (by decide +kernel)) ggX3_limit_X3_noFarmer
set_option maxRecDepth 20000 in
theorem ggX3_limit_X3_limitOf : GoodIn wsX3_limit wsX3_limitOf := goodIn_r _ [22, 23, 24, 25, 26, 27, 28, 29, 30, 31, 32, 33, 34, 35, 36, 37, 38, 39, 40, 41, 42, 43, 44, 45, 46, 47, 48, 49, 50] (by decide +kernel) (by decide +kernel)
set_option maxRecDepth 20000 in
theorem gX3_limit_X3_limitOf : GoodIn wsX3_limit (wsV RX3 107 RX3 yX3_limitOf wsX3_limitOf) := goodIn_app (goodIn_of _ (by decide +kernel)) ggX3_limit_X3_limitOf
theorem dX3_limit_0 : decode cX3_limit 0 = .ok (.aload_n 0, 1) := by decide +kernel
theorem dX3_limit_1 : decode cX3_limit 1 = .ok (.iload_n 1, 1) := by decide +kernel
theorem dX3_limit_2 : decode cX3_limit 2 = .ok (.invokevirtual 140, 3) := by decide +kernel
theorem dX3_limit_5 : decode cX3_limit 5 = .ok (.ifCond .eq 7, 3) := by decide +kernel
theorem dX3_limit_8 : decode cX3_limit 8 = .ok (.iconst 0, 1) := by decide +kernel
theorem dX3_limit_9 : decode cX3_limit 9 = .ok (.goto 8, 3) := by decide +kernel
theorem dX3_limit_12 : decode cX3_limit 12 = .ok (.aload_n 0, 1) := by decide +kernel
theorem dX3_limit_13 : decode cX3_limit 13 = .ok (.iload_n 1, 1) := by decide +kernel
theorem dX3_limit_14 : decode cX3_limit 14 = .ok (.invokevirtual 107, 3) := by decide +kernel
theorem dX3_limit_17 : decode cX3_limit 17 = .ok (.ireturn, 1) := by decide +kernel
set_option maxRecDepth 20000 in
theorem ggX3_debt_X3_noFarmer : GoodIn wsX3_debt wsX3_noFarmer := goodIn_r _ [6, 7, 8, 9, 5, 10, 11, 12, 13, 14, 15, 16, 17, 18, 19, 20, 21, 22, 23, 24, 25, 26, 27, 28, 29, 30, 31, 32, 33, 34, 35, 36, 37, 38, 39, 40, 41, 42, 43] (by decide +kernel) (by decide +kernel)
set_option maxRecDepth 20000 in
theorem gX3_debt_X3_noFarmer : GoodIn wsX3_debt (wsV RX3 140 RX3 yX3_noFarmer wsX3_noFarmer) := goodIn_app (goodIn_of _ (by decide +kernel)) ggX3_debt_X3_noFarmer
theorem dX3_debt_0 : decode cX3_debt 0 = .ok (.aload_n 0, 1) := by decide +kernel
theorem dX3_debt_1 : decode cX3_debt 1 = .ok (.iload_n 1, 1) := by decide +kernel
theorem dX3_debt_2 : decode cX3_debt 2 = .ok (.invokevirtual 140, 3) := by decide +kernel
theorem dX3_debt_5 : decode cX3_debt 5 = .ok (.ifCond .eq 7, 3) := by decide +kernel
theorem dX3_debt_8 : decode cX3_debt 8 = .ok (.iconst 0, 1) := by decide +kernel
theorem dX3_debt_9 : decode cX3_debt 9 = .ok (.goto 9, 3) := by decide +kernel
theorem dX3_debt_12 : decode cX3_debt 12 = .ok (.aload_n 0, 1) := by decide +kernel
theorem dX3_debt_13 : decode cX3_debt 13 = .ok (.getfield 25, 3) := by decide +kernel
theorem dX3_debt_16 : decode cX3_debt 16 = .ok (.iload_n 1, 1) := by decide +kernel
theorem dX3_debt_17 : decode cX3_debt 17 = .ok (.iaload, 1) := by decide +kernel
theorem dX3_debt_18 : decode cX3_debt 18 = .ok (.ireturn, 1) := by decide +kernel
set_option maxRecDepth 20000 in
theorem ggX3_owes_X3_noFarmer : GoodIn wsX3_owes wsX3_noFarmer := goodIn_r _ [9, 10, 11, 12, 8, 13, 14, 15, 16, 17, 18, 19, 20, 21, 22, 23, 24, 25, 26, 27, 28, 29, 30, 31, 32, 33, 34, 35, 36, 37, 38, 39, 40, 41, 42, 43, 44, 45, 46] (by decide +kernel) (by decide +kernel)
set_option maxRecDepth 20000 in
theorem gX3_owes_X3_noFarmer : GoodIn wsX3_owes (wsV RX3 140 RX3 yX3_noFarmer wsX3_noFarmer) := goodIn_app (goodIn_of _ (by decide +kernel)) ggX3_owes_X3_noFarmer
theorem dX3_owes_0 : decode cX3_owes 0 = .ok (.aload_n 0, 1) := by decide +kernel
theorem dX3_owes_1 : decode cX3_owes 1 = .ok (.iload_n 1, 1) := by decide +kernel
theorem dX3_owes_2 : decode cX3_owes 2 = .ok (.invokevirtual 140, 3) := by decide +kernel
theorem dX3_owes_5 : decode cX3_owes 5 = .ok (.ifCond .eq 5, 3) := by decide +kernel
theorem dX3_owes_8 : decode cX3_owes 8 = .ok (.iconst 0, 1) := by decide +kernel
theorem dX3_owes_9 : decode cX3_owes 9 = .ok (.ireturn, 1) := by decide +kernel
theorem dX3_owes_10 : decode cX3_owes 10 = .ok (.aload_n 0, 1) := by decide +kernel
theorem dX3_owes_11 : decode cX3_owes 11 = .ok (.getfield 25, 3) := by decide +kernel
theorem dX3_owes_14 : decode cX3_owes 14 = .ok (.iload_n 1, 1) := by decide +kernel
theorem dX3_owes_15 : decode cX3_owes 15 = .ok (.iaload, 1) := by decide +kernel
theorem dX3_owes_16 : decode cX3_owes 16 = .ok (.aload_n 0, 1) := by decide +kernel
theorem dX3_owes_17 : decode cX3_owes 17 = .ok (.getfield 37, 3) := by decide +kernel
theorem dX3_owes_20 : decode cX3_owes 20 = .ok (.iload_n 1, 1) := by decide +kernel
theorem dX3_owes_21 : decode cX3_owes 21 = .ok (.iaload, 1) := by decide +kernel
theorem dX3_owes_22 : decode cX3_owes 22 = .ok (.iadd, 1) := by decide +kernel
theorem dX3_owes_23 : decode cX3_owes 23 = .ok (.istore_n 2, 1) := by decide +kernel
theorem dX3_owes_24 : decode cX3_owes 24 = .ok (.iconst 0, 1) := by decide +kernel
theorem dX3_owes_25 : decode cX3_owes 25 = .ok (.istore_n 3, 1) := by decide +kernel
theorem dX3_owes_26 : decode cX3_owes 26 = .ok (.iload_n 3, 1) := by decide +kernel
theorem dX3_owes_27 : decode cX3_owes 27 = .ok (.aload_n 0, 1) := by decide +kernel
theorem dX3_owes_28 : decode cX3_owes 28 = .ok (.getfield 40, 3) := by decide +kernel
theorem dX3_owes_31 : decode cX3_owes 31 = .ok (.iload_n 1, 1) := by decide +kernel
theorem dX3_owes_32 : decode cX3_owes 32 = .ok (.iaload, 1) := by decide +kernel
theorem dX3_owes_33 : decode cX3_owes 33 = .ok (.if_icmp .ge 22, 3) := by decide +kernel
theorem dX3_owes_36 : decode cX3_owes 36 = .ok (.iload_n 2, 1) := by decide +kernel
theorem dX3_owes_37 : decode cX3_owes 37 = .ok (.aload_n 0, 1) := by decide +kernel
theorem dX3_owes_38 : decode cX3_owes 38 = .ok (.getfield 43, 3) := by decide +kernel
theorem dX3_owes_41 : decode cX3_owes 41 = .ok (.iconst 3, 1) := by decide +kernel
theorem dX3_owes_42 : decode cX3_owes 42 = .ok (.iload_n 1, 1) := by decide +kernel
theorem dX3_owes_43 : decode cX3_owes 43 = .ok (.imul, 1) := by decide +kernel
theorem dX3_owes_44 : decode cX3_owes 44 = .ok (.iload_n 3, 1) := by decide +kernel
theorem dX3_owes_45 : decode cX3_owes 45 = .ok (.iadd, 1) := by decide +kernel
theorem dX3_owes_46 : decode cX3_owes 46 = .ok (.iaload, 1) := by decide +kernel
theorem dX3_owes_47 : decode cX3_owes 47 = .ok (.iadd, 1) := by decide +kernel
theorem dX3_owes_48 : decode cX3_owes 48 = .ok (.istore_n 2, 1) := by decide +kernel
theorem dX3_owes_49 : decode cX3_owes 49 = .ok (.iinc 3 1, 3) := by decide +kernel
theorem dX3_owes_52 : decode cX3_owes 52 = .ok (.goto (-26), 3) := by decide +kernel
theorem dX3_owes_55 : decode cX3_owes 55 = .ok (.iload_n 2, 1) := by decide +kernel
theorem dX3_owes_56 : decode cX3_owes 56 = .ok (.ireturn, 1) := by decide +kernel
set_option maxRecDepth 20000 in
theorem ggX3_instalments_X3_noFarmer : GoodIn wsX3_instalments wsX3_noFarmer := goodIn_r _ [6, 7, 8, 9, 5, 10, 11, 12, 13, 14, 15, 16, 17, 18, 19, 20, 21, 22, 23, 24, 25, 26, 27, 28, 29, 30, 31, 32, 33, 34, 35, 36, 37, 38, 39, 40, 41, 42, 43] (by decide +kernel) (by decide +kernel)
set_option maxRecDepth 20000 in
theorem gX3_instalments_X3_noFarmer : GoodIn wsX3_instalments (wsV RX3 140 RX3 yX3_noFarmer wsX3_noFarmer) := goodIn_app (goodIn_of _ (by decide +kernel)) ggX3_instalments_X3_noFarmer
theorem dX3_instalments_0 : decode cX3_instalments 0 = .ok (.aload_n 0, 1) := by decide +kernel
theorem dX3_instalments_1 : decode cX3_instalments 1 = .ok (.iload_n 1, 1) := by decide +kernel
theorem dX3_instalments_2 : decode cX3_instalments 2 = .ok (.invokevirtual 140, 3) := by decide +kernel
theorem dX3_instalments_5 : decode cX3_instalments 5 = .ok (.ifCond .eq 7, 3) := by decide +kernel
theorem dX3_instalments_8 : decode cX3_instalments 8 = .ok (.iconst 0, 1) := by decide +kernel
theorem dX3_instalments_9 : decode cX3_instalments 9 = .ok (.goto 9, 3) := by decide +kernel
theorem dX3_instalments_12 : decode cX3_instalments 12 = .ok (.aload_n 0, 1) := by decide +kernel
theorem dX3_instalments_13 : decode cX3_instalments 13 = .ok (.getfield 40, 3) := by decide +kernel
theorem dX3_instalments_16 : decode cX3_instalments 16 = .ok (.iload_n 1, 1) := by decide +kernel
theorem dX3_instalments_17 : decode cX3_instalments 17 = .ok (.iaload, 1) := by decide +kernel
theorem dX3_instalments_18 : decode cX3_instalments 18 = .ok (.ireturn, 1) := by decide +kernel
set_option maxRecDepth 20000 in
theorem ggX3_purse_X3_noFarmer : GoodIn wsX3_purse wsX3_noFarmer := goodIn_r _ [6, 7, 8, 9, 5, 10, 11, 12, 13, 14, 15, 16, 17, 18, 19, 20, 21, 22, 23, 24, 25, 26, 27, 28, 29, 30, 31, 32, 33, 34, 35, 36, 37, 38, 39, 40, 41, 42, 43] (by decide +kernel) (by decide +kernel)
set_option maxRecDepth 20000 in
theorem gX3_purse_X3_noFarmer : GoodIn wsX3_purse (wsV RX3 140 RX3 yX3_noFarmer wsX3_noFarmer) := goodIn_app (goodIn_of _ (by decide +kernel)) ggX3_purse_X3_noFarmer
theorem dX3_purse_0 : decode cX3_purse 0 = .ok (.aload_n 0, 1) := by decide +kernel
theorem dX3_purse_1 : decode cX3_purse 1 = .ok (.iload_n 1, 1) := by decide +kernel
theorem dX3_purse_2 : decode cX3_purse 2 = .ok (.invokevirtual 140, 3) := by decide +kernel
theorem dX3_purse_5 : decode cX3_purse 5 = .ok (.ifCond .eq 7, 3) := by decide +kernel
theorem dX3_purse_8 : decode cX3_purse 8 = .ok (.iconst 0, 1) := by decide +kernel
theorem dX3_purse_9 : decode cX3_purse 9 = .ok (.goto 9, 3) := by decide +kernel
theorem dX3_purse_12 : decode cX3_purse 12 = .ok (.aload_n 0, 1) := by decide +kernel
theorem dX3_purse_13 : decode cX3_purse 13 = .ok (.getfield 22, 3) := by decide +kernel
theorem dX3_purse_16 : decode cX3_purse 16 = .ok (.iload_n 1, 1) := by decide +kernel
theorem dX3_purse_17 : decode cX3_purse 17 = .ok (.iaload, 1) := by decide +kernel
theorem dX3_purse_18 : decode cX3_purse 18 = .ok (.ireturn, 1) := by decide +kernel
set_option maxRecDepth 20000 in
theorem ggX3_grain_X3_noFarmer : GoodIn wsX3_grain wsX3_noFarmer := goodIn_r _ [7, 8, 9, 10, 6, 11, 12, 13, 14, 15, 16, 17, 18, 19, 20, 21, 22, 23, 24, 25, 26, 27, 28, 29, 30, 31, 32, 33, 34, 35, 36, 37, 38, 39, 40, 41, 42, 43, 44] (by decide +kernel) (by decide +kernel)
set_option maxRecDepth 20000 in
theorem gX3_grain_X3_noFarmer : GoodIn wsX3_grain (wsV RX3 140 RX3 yX3_noFarmer wsX3_noFarmer) := goodIn_app (goodIn_of _ (by decide +kernel)) ggX3_grain_X3_noFarmer
theorem dX3_grain_0 : decode cX3_grain 0 = .ok (.aload_n 0, 1) := by decide +kernel
theorem dX3_grain_1 : decode cX3_grain 1 = .ok (.iload_n 1, 1) := by decide +kernel
theorem dX3_grain_2 : decode cX3_grain 2 = .ok (.invokevirtual 140, 3) := by decide +kernel
theorem dX3_grain_5 : decode cX3_grain 5 = .ok (.ifCond .eq 7, 3) := by decide +kernel
theorem dX3_grain_8 : decode cX3_grain 8 = .ok (.iconst 0, 1) := by decide +kernel
theorem dX3_grain_9 : decode cX3_grain 9 = .ok (.goto 22, 3) := by decide +kernel
theorem dX3_grain_12 : decode cX3_grain 12 = .ok (.iload_n 2, 1) := by decide +kernel
theorem dX3_grain_13 : decode cX3_grain 13 = .ok (.ifCond .eq 12, 3) := by decide +kernel
theorem dX3_grain_16 : decode cX3_grain 16 = .ok (.aload_n 0, 1) := by decide +kernel
theorem dX3_grain_17 : decode cX3_grain 17 = .ok (.getfield 34, 3) := by decide +kernel
theorem dX3_grain_20 : decode cX3_grain 20 = .ok (.iload_n 1, 1) := by decide +kernel
theorem dX3_grain_21 : decode cX3_grain 21 = .ok (.iaload, 1) := by decide +kernel
theorem dX3_grain_22 : decode cX3_grain 22 = .ok (.goto 9, 3) := by decide +kernel
theorem dX3_grain_25 : decode cX3_grain 25 = .ok (.aload_n 0, 1) := by decide +kernel
theorem dX3_grain_26 : decode cX3_grain 26 = .ok (.getfield 31, 3) := by decide +kernel
theorem dX3_grain_29 : decode cX3_grain 29 = .ok (.iload_n 1, 1) := by decide +kernel
theorem dX3_grain_30 : decode cX3_grain 30 = .ok (.iaload, 1) := by decide +kernel
theorem dX3_grain_31 : decode cX3_grain 31 = .ok (.ireturn, 1) := by decide +kernel
set_option maxRecDepth 20000 in
theorem ggX3_called_X3_noFarmer : GoodIn wsX3_called wsX3_noFarmer := goodIn_r _ [6, 7, 8, 9, 5, 10, 11, 12, 13, 14, 15, 16, 17, 18, 19, 20, 21, 22, 23, 24, 25, 26, 27, 28, 29, 30, 31, 32, 33, 34, 35, 36, 37, 38, 39, 40, 41, 42, 43] (by decide +kernel) (by decide +kernel)
set_option maxRecDepth 20000 in
theorem gX3_called_X3_noFarmer : GoodIn wsX3_called (wsV RX3 140 RX3 yX3_noFarmer wsX3_noFarmer) := goodIn_app (goodIn_of _ (by decide +kernel)) ggX3_called_X3_noFarmer
theorem dX3_called_0 : decode cX3_called 0 = .ok (.aload_n 0, 1) := by decide +kernel
theorem dX3_called_1 : decode cX3_called 1 = .ok (.iload_n 1, 1) := by decide +kernel
theorem dX3_called_2 : decode cX3_called 2 = .ok (.invokevirtual 140, 3) := by decide +kernel
theorem dX3_called_5 : decode cX3_called 5 = .ok (.ifCond .eq 7, 3) := by decide +kernel
theorem dX3_called_8 : decode cX3_called 8 = .ok (.iconst 0, 1) := by decide +kernel
theorem dX3_called_9 : decode cX3_called 9 = .ok (.goto 9, 3) := by decide +kernel
theorem dX3_called_12 : decode cX3_called 12 = .ok (.aload_n 0, 1) := by decide +kernel
theorem dX3_called_13 : decode cX3_called 13 = .ok (.getfield 61, 3) := by decide +kernel
theorem dX3_called_16 : decode cX3_called 16 = .ok (.iload_n 1, 1) := by decide +kernel
theorem dX3_called_17 : decode cX3_called 17 = .ok (.iaload, 1) := by decide +kernel
theorem dX3_called_18 : decode cX3_called 18 = .ok (.ireturn, 1) := by decide +kernel
set_option maxRecDepth 20000 in
theorem ggX3_repaid_X3_isFarmer : GoodIn wsX3_repaid wsX3_isFarmer := goodIn_r _ [6, 7, 8, 9, 5, 10, 16, 17, 18, 19, 20, 21, 22, 23, 24, 25, 26, 27, 28, 29, 30, 31, 32, 33, 34, 35, 36, 37, 38, 39] (by decide +kernel) (by decide +kernel)
set_option maxRecDepth 20000 in
theorem gX3_repaid_X3_isFarmer : GoodIn wsX3_repaid (wsV RX3 104 RX3 yX3_isFarmer wsX3_isFarmer) := goodIn_app (goodIn_of _ (by decide +kernel)) ggX3_repaid_X3_isFarmer
set_option maxRecDepth 20000 in
theorem ggX3_repaid_X3_in : GoodIn wsX3_repaid wsX3_in := goodIn_r _ [10] (by decide +kernel) (by decide +kernel)
set_option maxRecDepth 20000 in
theorem gX3_repaid_X3_in : GoodIn wsX3_repaid (va_wsS RX3 74 yX3_in wsX3_in) := goodIn_app (goodIn_of _ (by decide +kernel)) ggX3_repaid_X3_in
set_option maxRecDepth 20000 in
theorem ggX3_repaid_X3_refused : GoodIn wsX3_repaid wsX3_refused := goodIn_r _ [14, 15, 16, 17, 18, 19, 20, 21, 22, 23, 24, 25, 26, 27, 28, 29, 30, 31, 32, 33, 34, 35, 36, 37, 38, 39] (by decide +kernel) (by decide +kernel)
set_option maxRecDepth 20000 in
theorem gX3_repaid_X3_refused : GoodIn wsX3_repaid (wsV RX3 86 RX3 yX3_refused wsX3_refused) := goodIn_app (goodIn_of _ (by decide +kernel)) ggX3_repaid_X3_refused
theorem dX3_repaid_0 : decode cX3_repaid 0 = .ok (.aload_n 0, 1) := by decide +kernel
theorem dX3_repaid_1 : decode cX3_repaid 1 = .ok (.aload_n 0, 1) := by decide +kernel
theorem dX3_repaid_2 : decode cX3_repaid 2 = .ok (.iload_n 1, 1) := by decide +kernel
theorem dX3_repaid_3 : decode cX3_repaid 3 = .ok (.invokevirtual 104, 3) := by decide +kernel
theorem dX3_repaid_6 : decode cX3_repaid 6 = .ok (.ifCond .ne 7, 3) := by decide +kernel
theorem dX3_repaid_9 : decode cX3_repaid 9 = .ok (.iconst 1, 1) := by decide +kernel
theorem dX3_repaid_10 : decode cX3_repaid 10 = .ok (.goto 17, 3) := by decide +kernel
theorem dX3_repaid_13 : decode cX3_repaid 13 = .ok (.iload_n 2, 1) := by decide +kernel
theorem dX3_repaid_14 : decode cX3_repaid 14 = .ok (.iconst 0, 1) := by decide +kernel
theorem dX3_repaid_15 : decode cX3_repaid 15 = .ok (.iconst 4, 1) := by decide +kernel
theorem dX3_repaid_16 : decode cX3_repaid 16 = .ok (.invokestatic 74, 3) := by decide +kernel
theorem dX3_repaid_19 : decode cX3_repaid 19 = .ok (.ifCond .eq 7, 3) := by decide +kernel
theorem dX3_repaid_22 : decode cX3_repaid 22 = .ok (.iconst 0, 1) := by decide +kernel
theorem dX3_repaid_23 : decode cX3_repaid 23 = .ok (.goto 4, 3) := by decide +kernel
theorem dX3_repaid_26 : decode cX3_repaid 26 = .ok (.iconst 2, 1) := by decide +kernel
theorem dX3_repaid_27 : decode cX3_repaid 27 = .ok (.invokevirtual 86, 3) := by decide +kernel
theorem dX3_repaid_30 : decode cX3_repaid 30 = .ok (.ifCond .eq 7, 3) := by decide +kernel
theorem dX3_repaid_33 : decode cX3_repaid 33 = .ok (.iconst 0, 1) := by decide +kernel
theorem dX3_repaid_34 : decode cX3_repaid 34 = .ok (.goto 13, 3) := by decide +kernel
theorem dX3_repaid_37 : decode cX3_repaid 37 = .ok (.aload_n 0, 1) := by decide +kernel
theorem dX3_repaid_38 : decode cX3_repaid 38 = .ok (.getfield 64, 3) := by decide +kernel
theorem dX3_repaid_41 : decode cX3_repaid 41 = .ok (.iconst 5, 1) := by decide +kernel
theorem dX3_repaid_42 : decode cX3_repaid 42 = .ok (.iload_n 1, 1) := by decide +kernel
theorem dX3_repaid_43 : decode cX3_repaid 43 = .ok (.imul, 1) := by decide +kernel
theorem dX3_repaid_44 : decode cX3_repaid 44 = .ok (.iload_n 2, 1) := by decide +kernel
theorem dX3_repaid_45 : decode cX3_repaid 45 = .ok (.iadd, 1) := by decide +kernel
theorem dX3_repaid_46 : decode cX3_repaid 46 = .ok (.iaload, 1) := by decide +kernel
theorem dX3_repaid_47 : decode cX3_repaid 47 = .ok (.ireturn, 1) := by decide +kernel
set_option maxRecDepth 20000 in
theorem ggX3_charged_X3_noFarmer : GoodIn wsX3_charged wsX3_noFarmer := goodIn_r _ [6, 7, 8, 9, 5, 10, 11, 12, 13, 14, 15, 16, 17, 18, 19, 20, 21, 22, 23, 24, 25, 26, 27, 28, 29, 30, 31, 32, 33, 34, 35, 36, 37, 38, 39, 40, 41, 42, 43] (by decide +kernel) (by decide +kernel)
set_option maxRecDepth 20000 in
theorem gX3_charged_X3_noFarmer : GoodIn wsX3_charged (wsV RX3 140 RX3 yX3_noFarmer wsX3_noFarmer) := goodIn_app (goodIn_of _ (by decide +kernel)) ggX3_charged_X3_noFarmer
theorem dX3_charged_0 : decode cX3_charged 0 = .ok (.aload_n 0, 1) := by decide +kernel
theorem dX3_charged_1 : decode cX3_charged 1 = .ok (.iload_n 1, 1) := by decide +kernel
theorem dX3_charged_2 : decode cX3_charged 2 = .ok (.invokevirtual 140, 3) := by decide +kernel
theorem dX3_charged_5 : decode cX3_charged 5 = .ok (.ifCond .eq 7, 3) := by decide +kernel
theorem dX3_charged_8 : decode cX3_charged 8 = .ok (.iconst 0, 1) := by decide +kernel
theorem dX3_charged_9 : decode cX3_charged 9 = .ok (.goto 9, 3) := by decide +kernel
theorem dX3_charged_12 : decode cX3_charged 12 = .ok (.aload_n 0, 1) := by decide +kernel
theorem dX3_charged_13 : decode cX3_charged 13 = .ok (.getfield 67, 3) := by decide +kernel
theorem dX3_charged_16 : decode cX3_charged 16 = .ok (.iload_n 1, 1) := by decide +kernel
theorem dX3_charged_17 : decode cX3_charged 17 = .ok (.iaload, 1) := by decide +kernel
theorem dX3_charged_18 : decode cX3_charged 18 = .ok (.ireturn, 1) := by decide +kernel
