theorem dX10_pair_138 : decode cX10_pair 138 = .ok (.iload_n 1, 1) := by decide +kernel
theorem dX10_pair_139 : decode cX10_pair 139 = .ok (.if_icmp .ne 6, 3) := by decide +kernel
theorem dX10_pair_142 : decode cX10_pair 142 = .ok (.iload 4, 2) := by decide +kernel
theorem dX10_pair_144 : decode cX10_pair 144 = .ok (.ireturn, 1) := by decide +kernel
theorem dX10_pair_145 : decode cX10_pair 145 = .ok (.iinc 3 1, 3) := by decide +kernel
theorem dX10_pair_148 : decode cX10_pair 148 = .ok (.goto (-113), 3) := by decide +kernel
theorem dX10_pair_151 : decode cX10_pair 151 = .ok (.iconst (-1), 1) := by decide +kernel
theorem dX10_pair_152 : decode cX10_pair 152 = .ok (.ireturn, 1) := by decide +kernel
set_option maxRecDepth 20000 in
theorem ggX10_near_X10_isIn : GoodIn wsX10_near wsX10_isIn := goodIn_r _ [6] (by decide +kernel) (by decide +kernel)
set_option maxRecDepth 20000 in
theorem gX10_near_X10_isIn : GoodIn wsX10_near (va_wsS RX10 191 yX10_isIn wsX10_isIn) := goodIn_app (goodIn_of _ (by decide +kernel)) ggX10_near_X10_isIn
theorem dX10_near_0 : decode cX10_near 0 = .ok (.aload_n 0, 1) := by decide +kernel
theorem dX10_near_1 : decode cX10_near 1 = .ok (.iconst 0, 1) := by decide +kernel
theorem dX10_near_2 : decode cX10_near 2 = .ok (.putfield 106, 3) := by decide +kernel
theorem dX10_near_5 : decode cX10_near 5 = .ok (.iload_n 1, 1) := by decide +kernel
theorem dX10_near_6 : decode cX10_near 6 = .ok (.iconst 0, 1) := by decide +kernel
theorem dX10_near_7 : decode cX10_near 7 = .ok (.bipush 100, 2) := by decide +kernel
theorem dX10_near_9 : decode cX10_near 9 = .ok (.invokestatic 191, 3) := by decide +kernel
theorem dX10_near_12 : decode cX10_near 12 = .ok (.ifCond .ne 5, 3) := by decide +kernel
theorem dX10_near_15 : decode cX10_near 15 = .ok (.iconst 0, 1) := by decide +kernel
theorem dX10_near_16 : decode cX10_near 16 = .ok (.ireturn, 1) := by decide +kernel
theorem dX10_near_17 : decode cX10_near 17 = .ok (.aload_n 0, 1) := by decide +kernel
theorem dX10_near_18 : decode cX10_near 18 = .ok (.iload_n 1, 1) := by decide +kernel
theorem dX10_near_19 : decode cX10_near 19 = .ok (.putfield 99, 3) := by decide +kernel
theorem dX10_near_22 : decode cX10_near 22 = .ok (.iconst 1, 1) := by decide +kernel
theorem dX10_near_23 : decode cX10_near 23 = .ok (.ireturn, 1) := by decide +kernel
theorem dX10_isNear_0 : decode cX10_isNear 0 = .ok (.iload_n 1, 1) := by decide +kernel
theorem dX10_isNear_1 : decode cX10_isNear 1 = .ok (.iload_n 2, 1) := by decide +kernel
theorem dX10_isNear_2 : decode cX10_isNear 2 = .ok (.isub, 1) := by decide +kernel
theorem dX10_isNear_3 : decode cX10_isNear 3 = .ok (.invokestatic 256, 3) := by decide +kernel
theorem dX10_isNear_6 : decode cX10_isNear 6 = .ok (.i2l, 1) := by decide +kernel
theorem dX10_isNear_7 : decode cX10_isNear 7 = .ok (.ldc2_w 233, 3) := by decide +kernel
theorem dX10_isNear_10 : decode cX10_isNear 10 = .ok (.lmul, 1) := by decide +kernel
theorem dX10_isNear_11 : decode cX10_isNear 11 = .ok (.iload_n 2, 1) := by decide +kernel
theorem dX10_isNear_12 : decode cX10_isNear 12 = .ok (.i2l, 1) := by decide +kernel
theorem dX10_isNear_13 : decode cX10_isNear 13 = .ok (.aload_n 0, 1) := by decide +kernel
theorem dX10_isNear_14 : decode cX10_isNear 14 = .ok (.getfield 99, 3) := by decide +kernel
theorem dX10_isNear_17 : decode cX10_isNear 17 = .ok (.i2l, 1) := by decide +kernel
theorem dX10_isNear_18 : decode cX10_isNear 18 = .ok (.lmul, 1) := by decide +kernel
theorem dX10_isNear_19 : decode cX10_isNear 19 = .ok (.lcmp, 1) := by decide +kernel
theorem dX10_isNear_20 : decode cX10_isNear 20 = .ok (.ifCond .gt 7, 3) := by decide +kernel
theorem dX10_isNear_23 : decode cX10_isNear 23 = .ok (.iconst 1, 1) := by decide +kernel
theorem dX10_isNear_24 : decode cX10_isNear 24 = .ok (.goto 4, 3) := by decide +kernel
theorem dX10_isNear_27 : decode cX10_isNear 27 = .ok (.iconst 0, 1) := by decide +kernel
theorem dX10_isNear_28 : decode cX10_isNear 28 = .ok (.ireturn, 1) := by decide +kernel
set_option maxRecDepth 20000 in
theorem ggX10_judge_X10_isIn : GoodIn wsX10_judge wsX10_isIn := goodIn_r _ [9] (by decide +kernel) (by decide +kernel)
set_option maxRecDepth 20000 in
theorem gX10_judge_X10_isIn : GoodIn wsX10_judge (va_wsS RX10 191 yX10_isIn wsX10_isIn) := goodIn_app (goodIn_of _ (by decide +kernel)) ggX10_judge_X10_isIn
set_option maxRecDepth 20000 in
theorem ggX10_judge_X10_isNear : GoodIn wsX10_judge wsX10_isNear := goodIn_r _ [13, 14, 15, 16, 17, 18, 19, 20, 21, 22, 23, 24, 25, 26, 27, 28, 29, 30, 31, 32, 33, 34, 35, 36, 37, 38, 39, 40, 41, 42, 43, 44, 45, 46, 47, 48, 49, 50, 51, 52, 53, 54, 55, 56, 57, 58, 59, 60, 61, 62, 63, 64, 65, 66, 67, 68, 69] (by decide +kernel) (by decide +kernel)
set_option maxRecDepth 20000 in
theorem gX10_judge_X10_isNear : GoodIn wsX10_judge (wsV RX10 273 RX10 yX10_isNear wsX10_isNear) := goodIn_app (goodIn_of _ (by decide +kernel)) ggX10_judge_X10_isNear
theorem dX10_judge_0 : decode cX10_judge 0 = .ok (.aload_n 0, 1) := by decide +kernel
theorem dX10_judge_1 : decode cX10_judge 1 = .ok (.iconst 0, 1) := by decide +kernel
theorem dX10_judge_2 : decode cX10_judge 2 = .ok (.putfield 106, 3) := by decide +kernel
theorem dX10_judge_5 : decode cX10_judge 5 = .ok (.iload_n 1, 1) := by decide +kernel
theorem dX10_judge_6 : decode cX10_judge 6 = .ok (.iconst 0, 1) := by decide +kernel
theorem dX10_judge_7 : decode cX10_judge 7 = .ok (.ldc_w 272, 3) := by decide +kernel
theorem dX10_judge_10 : decode cX10_judge 10 = .ok (.invokestatic 191, 3) := by decide +kernel
theorem dX10_judge_13 : decode cX10_judge 13 = .ok (.ifCond .eq 25, 3) := by decide +kernel
theorem dX10_judge_16 : decode cX10_judge 16 = .ok (.iload_n 2, 1) := by decide +kernel
theorem dX10_judge_17 : decode cX10_judge 17 = .ok (.iconst 0, 1) := by decide +kernel
theorem dX10_judge_18 : decode cX10_judge 18 = .ok (.ldc_w 272, 3) := by decide +kernel
theorem dX10_judge_21 : decode cX10_judge 21 = .ok (.invokestatic 191, 3) := by decide +kernel
theorem dX10_judge_24 : decode cX10_judge 24 = .ok (.ifCond .eq 14, 3) := by decide +kernel
theorem dX10_judge_27 : decode cX10_judge 27 = .ok (.iload_n 3, 1) := by decide +kernel
theorem dX10_judge_28 : decode cX10_judge 28 = .ok (.iconst 0, 1) := by decide +kernel
theorem dX10_judge_29 : decode cX10_judge 29 = .ok (.ldc_w 272, 3) := by decide +kernel
theorem dX10_judge_32 : decode cX10_judge 32 = .ok (.invokestatic 191, 3) := by decide +kernel
theorem dX10_judge_35 : decode cX10_judge 35 = .ok (.ifCond .ne 5, 3) := by decide +kernel
theorem dX10_judge_38 : decode cX10_judge 38 = .ok (.iconst (-1), 1) := by decide +kernel
theorem dX10_judge_39 : decode cX10_judge 39 = .ok (.ireturn, 1) := by decide +kernel
theorem dX10_judge_40 : decode cX10_judge 40 = .ok (.aload_n 0, 1) := by decide +kernel
theorem dX10_judge_41 : decode cX10_judge 41 = .ok (.iload_n 1, 1) := by decide +kernel
theorem dX10_judge_42 : decode cX10_judge 42 = .ok (.iload_n 3, 1) := by decide +kernel
theorem dX10_judge_43 : decode cX10_judge 43 = .ok (.invokevirtual 273, 3) := by decide +kernel
theorem dX10_judge_46 : decode cX10_judge 46 = .ok (.istore 4, 2) := by decide +kernel
theorem dX10_judge_48 : decode cX10_judge 48 = .ok (.aload_n 0, 1) := by decide +kernel
theorem dX10_judge_49 : decode cX10_judge 49 = .ok (.iload_n 2, 1) := by decide +kernel
theorem dX10_judge_50 : decode cX10_judge 50 = .ok (.iload_n 3, 1) := by decide +kernel
theorem dX10_judge_51 : decode cX10_judge 51 = .ok (.invokevirtual 273, 3) := by decide +kernel
theorem dX10_judge_54 : decode cX10_judge 54 = .ok (.istore 5, 2) := by decide +kernel
theorem dX10_judge_56 : decode cX10_judge 56 = .ok (.aload_n 0, 1) := by decide +kernel
theorem dX10_judge_57 : decode cX10_judge 57 = .ok (.dup, 1) := by decide +kernel
theorem dX10_judge_58 : decode cX10_judge 58 = .ok (.getfield 276, 3) := by decide +kernel
theorem dX10_judge_61 : decode cX10_judge 61 = .ok (.iload 4, 2) := by decide +kernel
theorem dX10_judge_63 : decode cX10_judge 63 = .ok (.ifCond .eq 7, 3) := by decide +kernel
theorem dX10_judge_66 : decode cX10_judge 66 = .ok (.iconst 0, 1) := by decide +kernel
theorem dX10_judge_67 : decode cX10_judge 67 = .ok (.goto 4, 3) := by decide +kernel
theorem dX10_judge_70 : decode cX10_judge 70 = .ok (.iconst 1, 1) := by decide +kernel
theorem dX10_judge_71 : decode cX10_judge 71 = .ok (.iadd, 1) := by decide +kernel
theorem dX10_judge_72 : decode cX10_judge 72 = .ok (.putfield 276, 3) := by decide +kernel
theorem dX10_judge_75 : decode cX10_judge 75 = .ok (.aload_n 0, 1) := by decide +kernel
theorem dX10_judge_76 : decode cX10_judge 76 = .ok (.dup, 1) := by decide +kernel
theorem dX10_judge_77 : decode cX10_judge 77 = .ok (.getfield 279, 3) := by decide +kernel
theorem dX10_judge_80 : decode cX10_judge 80 = .ok (.iload 5, 2) := by decide +kernel
theorem dX10_judge_82 : decode cX10_judge 82 = .ok (.ifCond .eq 7, 3) := by decide +kernel
theorem dX10_judge_85 : decode cX10_judge 85 = .ok (.iconst 0, 1) := by decide +kernel
theorem dX10_judge_86 : decode cX10_judge 86 = .ok (.goto 4, 3) := by decide +kernel
theorem dX10_judge_89 : decode cX10_judge 89 = .ok (.iconst 1, 1) := by decide +kernel
theorem dX10_judge_90 : decode cX10_judge 90 = .ok (.iadd, 1) := by decide +kernel
theorem dX10_judge_91 : decode cX10_judge 91 = .ok (.putfield 279, 3) := by decide +kernel
theorem dX10_judge_94 : decode cX10_judge 94 = .ok (.iload 4, 2) := by decide +kernel
theorem dX10_judge_96 : decode cX10_judge 96 = .ok (.ifCond .eq 12, 3) := by decide +kernel
theorem dX10_judge_99 : decode cX10_judge 99 = .ok (.iload 5, 2) := by decide +kernel
theorem dX10_judge_101 : decode cX10_judge 101 = .ok (.ifCond .eq 7, 3) := by decide +kernel
theorem dX10_judge_104 : decode cX10_judge 104 = .ok (.iconst 0, 1) := by decide +kernel
theorem dX10_judge_105 : decode cX10_judge 105 = .ok (.goto 22, 3) := by decide +kernel
theorem dX10_judge_108 : decode cX10_judge 108 = .ok (.iload 5, 2) := by decide +kernel
theorem dX10_judge_110 : decode cX10_judge 110 = .ok (.ifCond .eq 7, 3) := by decide +kernel
theorem dX10_judge_113 : decode cX10_judge 113 = .ok (.iconst 1, 1) := by decide +kernel
theorem dX10_judge_114 : decode cX10_judge 114 = .ok (.goto 13, 3) := by decide +kernel
theorem dX10_judge_117 : decode cX10_judge 117 = .ok (.iload 4, 2) := by decide +kernel
theorem dX10_judge_119 : decode cX10_judge 119 = .ok (.ifCond .eq 7, 3) := by decide +kernel
theorem dX10_judge_122 : decode cX10_judge 122 = .ok (.iconst 2, 1) := by decide +kernel
theorem dX10_judge_123 : decode cX10_judge 123 = .ok (.goto 4, 3) := by decide +kernel
theorem dX10_judge_126 : decode cX10_judge 126 = .ok (.iconst 3, 1) := by decide +kernel
theorem dX10_judge_127 : decode cX10_judge 127 = .ok (.istore 6, 2) := by decide +kernel
theorem dX10_judge_129 : decode cX10_judge 129 = .ok (.aload_n 0, 1) := by decide +kernel
theorem dX10_judge_130 : decode cX10_judge 130 = .ok (.iload 6, 2) := by decide +kernel
theorem dX10_judge_132 : decode cX10_judge 132 = .ok (.iconst 1, 1) := by decide +kernel
theorem dX10_judge_133 : decode cX10_judge 133 = .ok (.if_icmp .ne 7, 3) := by decide +kernel
theorem dX10_judge_136 : decode cX10_judge 136 = .ok (.iload_n 2, 1) := by decide +kernel
theorem dX10_judge_137 : decode cX10_judge 137 = .ok (.goto 14, 3) := by decide +kernel
theorem dX10_judge_140 : decode cX10_judge 140 = .ok (.iload 6, 2) := by decide +kernel
theorem dX10_judge_142 : decode cX10_judge 142 = .ok (.iconst 2, 1) := by decide +kernel
theorem dX10_judge_143 : decode cX10_judge 143 = .ok (.if_icmp .ne 7, 3) := by decide +kernel
theorem dX10_judge_146 : decode cX10_judge 146 = .ok (.iload_n 1, 1) := by decide +kernel
theorem dX10_judge_147 : decode cX10_judge 147 = .ok (.goto 4, 3) := by decide +kernel
theorem dX10_judge_150 : decode cX10_judge 150 = .ok (.iload_n 3, 1) := by decide +kernel
theorem dX10_judge_151 : decode cX10_judge 151 = .ok (.putfield 103, 3) := by decide +kernel
theorem dX10_judge_154 : decode cX10_judge 154 = .ok (.iload 6, 2) := by decide +kernel
theorem dX10_judge_156 : decode cX10_judge 156 = .ok (.ireturn, 1) := by decide +kernel
theorem dX10_count_0 : decode cX10_count 0 = .ok (.aload_n 0, 1) := by decide +kernel
theorem dX10_count_1 : decode cX10_count 1 = .ok (.iconst 0, 1) := by decide +kernel
theorem dX10_count_2 : decode cX10_count 2 = .ok (.putfield 106, 3) := by decide +kernel
theorem dX10_count_5 : decode cX10_count 5 = .ok (.iload_n 1, 1) := by decide +kernel
theorem dX10_count_6 : decode cX10_count 6 = .ok (.tableswitch 117 0 10 #[58, 63, 68, 73, 78, 83, 90, 97, 102, 107, 112], 58) := by decide +kernel
theorem dX10_count_64 : decode cX10_count 64 = .ok (.aload_n 0, 1) := by decide +kernel
theorem dX10_count_65 : decode cX10_count 65 = .ok (.getfield 202, 3) := by decide +kernel
theorem dX10_count_68 : decode cX10_count 68 = .ok (.ireturn, 1) := by decide +kernel
theorem dX10_count_69 : decode cX10_count 69 = .ok (.aload_n 0, 1) := by decide +kernel
theorem dX10_count_70 : decode cX10_count 70 = .ok (.getfield 199, 3) := by decide +kernel
theorem dX10_count_73 : decode cX10_count 73 = .ok (.ireturn, 1) := by decide +kernel
theorem dX10_count_74 : decode cX10_count 74 = .ok (.aload_n 0, 1) := by decide +kernel
theorem dX10_count_75 : decode cX10_count 75 = .ok (.getfield 219, 3) := by decide +kernel
theorem dX10_count_78 : decode cX10_count 78 = .ok (.ireturn, 1) := by decide +kernel
theorem dX10_count_79 : decode cX10_count 79 = .ok (.aload_n 0, 1) := by decide +kernel
theorem dX10_count_80 : decode cX10_count 80 = .ok (.getfield 241, 3) := by decide +kernel
theorem dX10_count_83 : decode cX10_count 83 = .ok (.ireturn, 1) := by decide +kernel
theorem dX10_count_84 : decode cX10_count 84 = .ok (.aload_n 0, 1) := by decide +kernel
theorem dX10_count_85 : decode cX10_count 85 = .ok (.getfield 244, 3) := by decide +kernel
theorem dX10_count_88 : decode cX10_count 88 = .ok (.ireturn, 1) := by decide +kernel
theorem dX10_count_89 : decode cX10_count 89 = .ok (.aload_n 0, 1) := by decide +kernel
theorem dX10_count_90 : decode cX10_count 90 = .ok (.getfield 86, 3) := by decide +kernel
theorem dX10_count_93 : decode cX10_count 93 = .ok (.iconst 0, 1) := by decide +kernel
theorem dX10_count_94 : decode cX10_count 94 = .ok (.iaload, 1) := by decide +kernel
theorem dX10_count_95 : decode cX10_count 95 = .ok (.ireturn, 1) := by decide +kernel
theorem dX10_count_96 : decode cX10_count 96 = .ok (.aload_n 0, 1) := by decide +kernel
theorem dX10_count_97 : decode cX10_count 97 = .ok (.getfield 86, 3) := by decide +kernel
theorem dX10_count_100 : decode cX10_count 100 = .ok (.iconst 1, 1) := by decide +kernel
theorem dX10_count_101 : decode cX10_count 101 = .ok (.iaload, 1) := by decide +kernel
theorem dX10_count_102 : decode cX10_count 102 = .ok (.ireturn, 1) := by decide +kernel
theorem dX10_count_103 : decode cX10_count 103 = .ok (.aload_n 0, 1) := by decide +kernel
theorem dX10_count_104 : decode cX10_count 104 = .ok (.getfield 109, 3) := by decide +kernel
theorem dX10_count_107 : decode cX10_count 107 = .ok (.ireturn, 1) := by decide +kernel
theorem dX10_count_108 : decode cX10_count 108 = .ok (.aload_n 0, 1) := by decide +kernel
theorem dX10_count_109 : decode cX10_count 109 = .ok (.getfield 103, 3) := by decide +kernel
theorem dX10_count_112 : decode cX10_count 112 = .ok (.ireturn, 1) := by decide +kernel
theorem dX10_count_113 : decode cX10_count 113 = .ok (.aload_n 0, 1) := by decide +kernel
theorem dX10_count_114 : decode cX10_count 114 = .ok (.getfield 276, 3) := by decide +kernel
theorem dX10_count_117 : decode cX10_count 117 = .ok (.ireturn, 1) := by decide +kernel
theorem dX10_count_118 : decode cX10_count 118 = .ok (.aload_n 0, 1) := by decide +kernel
theorem dX10_count_119 : decode cX10_count 119 = .ok (.getfield 279, 3) := by decide +kernel
theorem dX10_count_122 : decode cX10_count 122 = .ok (.ireturn, 1) := by decide +kernel
theorem dX10_count_123 : decode cX10_count 123 = .ok (.iconst (-1), 1) := by decide +kernel
theorem dX10_count_124 : decode cX10_count 124 = .ok (.ireturn, 1) := by decide +kernel
theorem dJ9_floorDiv_f86c9_0 : decode cJ9_floorDiv_f86c9 0 = .ok (.lload_n 0, 1) := by decide +kernel
theorem dJ9_floorDiv_f86c9_1 : decode cJ9_floorDiv_f86c9 1 = .ok (.lload_n 2, 1) := by decide +kernel
theorem dJ9_floorDiv_f86c9_2 : decode cJ9_floorDiv_f86c9 2 = .ok (.ldiv, 1) := by decide +kernel
theorem dJ9_floorDiv_f86c9_3 : decode cJ9_floorDiv_f86c9 3 = .ok (.lstore 4, 2) := by decide +kernel
theorem dJ9_floorDiv_f86c9_5 : decode cJ9_floorDiv_f86c9 5 = .ok (.lload_n 0, 1) := by decide +kernel
theorem dJ9_floorDiv_f86c9_6 : decode cJ9_floorDiv_f86c9 6 = .ok (.lload_n 2, 1) := by decide +kernel
theorem dJ9_floorDiv_f86c9_7 : decode cJ9_floorDiv_f86c9 7 = .ok (.lxor, 1) := by decide +kernel
theorem dJ9_floorDiv_f86c9_8 : decode cJ9_floorDiv_f86c9 8 = .ok (.lconst 0, 1) := by decide +kernel
theorem dJ9_floorDiv_f86c9_9 : decode cJ9_floorDiv_f86c9 9 = .ok (.lcmp, 1) := by decide +kernel
theorem dJ9_floorDiv_f86c9_10 : decode cJ9_floorDiv_f86c9 10 = .ok (.ifCond .ge 17, 3) := by decide +kernel
theorem dJ9_floorDiv_f86c9_13 : decode cJ9_floorDiv_f86c9 13 = .ok (.lload 4, 2) := by decide +kernel
theorem dJ9_floorDiv_f86c9_15 : decode cJ9_floorDiv_f86c9 15 = .ok (.lload_n 2, 1) := by decide +kernel
theorem dJ9_floorDiv_f86c9_16 : decode cJ9_floorDiv_f86c9 16 = .ok (.lmul, 1) := by decide +kernel
theorem dJ9_floorDiv_f86c9_17 : decode cJ9_floorDiv_f86c9 17 = .ok (.lload_n 0, 1) := by decide +kernel
theorem dJ9_floorDiv_f86c9_18 : decode cJ9_floorDiv_f86c9 18 = .ok (.lcmp, 1) := by decide +kernel
theorem dJ9_floorDiv_f86c9_19 : decode cJ9_floorDiv_f86c9 19 = .ok (.ifCond .eq 8, 3) := by decide +kernel
theorem dJ9_floorDiv_f86c9_22 : decode cJ9_floorDiv_f86c9 22 = .ok (.lload 4, 2) := by decide +kernel
theorem dJ9_floorDiv_f86c9_24 : decode cJ9_floorDiv_f86c9 24 = .ok (.lconst 1, 1) := by decide +kernel
theorem dJ9_floorDiv_f86c9_25 : decode cJ9_floorDiv_f86c9 25 = .ok (.lsub, 1) := by decide +kernel
theorem dJ9_floorDiv_f86c9_26 : decode cJ9_floorDiv_f86c9 26 = .ok (.lreturn, 1) := by decide +kernel
theorem dJ9_floorDiv_f86c9_27 : decode cJ9_floorDiv_f86c9 27 = .ok (.lload 4, 2) := by decide +kernel
theorem dJ9_floorDiv_f86c9_29 : decode cJ9_floorDiv_f86c9 29 = .ok (.lreturn, 1) := by decide +kernel
theorem dJ9_abs_0f7a4_0 : decode cJ9_abs_0f7a4 0 = .ok (.iload_n 0, 1) := by decide +kernel
theorem dJ9_abs_0f7a4_1 : decode cJ9_abs_0f7a4 1 = .ok (.ifCond .ge 8, 3) := by decide +kernel
theorem dJ9_abs_0f7a4_4 : decode cJ9_abs_0f7a4 4 = .ok (.iload_n 0, 1) := by decide +kernel
theorem dJ9_abs_0f7a4_5 : decode cJ9_abs_0f7a4 5 = .ok (.ineg, 1) := by decide +kernel
theorem dJ9_abs_0f7a4_6 : decode cJ9_abs_0f7a4 6 = .ok (.goto 4, 3) := by decide +kernel
theorem dJ9_abs_0f7a4_9 : decode cJ9_abs_0f7a4 9 = .ok (.iload_n 0, 1) := by decide +kernel
theorem dJ9_abs_0f7a4_10 : decode cJ9_abs_0f7a4 10 = .ok (.ireturn, 1) := by decide +kernel
theorem dJ9_max_7cf53_0 : decode cJ9_max_7cf53 0 = .ok (.iload_n 0, 1) := by decide +kernel
theorem dJ9_max_7cf53_1 : decode cJ9_max_7cf53 1 = .ok (.iload_n 1, 1) := by decide +kernel
theorem dJ9_max_7cf53_2 : decode cJ9_max_7cf53 2 = .ok (.if_icmp .lt 7, 3) := by decide +kernel
theorem dJ9_max_7cf53_5 : decode cJ9_max_7cf53 5 = .ok (.iload_n 0, 1) := by decide +kernel
theorem dJ9_max_7cf53_6 : decode cJ9_max_7cf53 6 = .ok (.goto 4, 3) := by decide +kernel
theorem dJ9_max_7cf53_9 : decode cJ9_max_7cf53 9 = .ok (.iload_n 1, 1) := by decide +kernel
theorem dJ9_max_7cf53_10 : decode cJ9_max_7cf53 10 = .ok (.ireturn, 1) := by decide +kernel
theorem dJ9_max_f86c9_0 : decode cJ9_max_f86c9 0 = .ok (.lload_n 0, 1) := by decide +kernel
theorem dJ9_max_f86c9_1 : decode cJ9_max_f86c9 1 = .ok (.lload_n 2, 1) := by decide +kernel
theorem dJ9_max_f86c9_2 : decode cJ9_max_f86c9 2 = .ok (.lcmp, 1) := by decide +kernel
theorem dJ9_max_f86c9_3 : decode cJ9_max_f86c9 3 = .ok (.ifCond .lt 7, 3) := by decide +kernel
theorem dJ9_max_f86c9_6 : decode cJ9_max_f86c9 6 = .ok (.lload_n 0, 1) := by decide +kernel
theorem dJ9_max_f86c9_7 : decode cJ9_max_f86c9 7 = .ok (.goto 4, 3) := by decide +kernel
theorem dJ9_max_f86c9_10 : decode cJ9_max_f86c9 10 = .ok (.lload_n 2, 1) := by decide +kernel
theorem dJ9_max_f86c9_11 : decode cJ9_max_f86c9 11 = .ok (.lreturn, 1) := by decide +kernel
theorem dJ9_min_7cf53_0 : decode cJ9_min_7cf53 0 = .ok (.iload_n 0, 1) := by decide +kernel
theorem dJ9_min_7cf53_1 : decode cJ9_min_7cf53 1 = .ok (.iload_n 1, 1) := by decide +kernel
theorem dJ9_min_7cf53_2 : decode cJ9_min_7cf53 2 = .ok (.if_icmp .gt 7, 3) := by decide +kernel
theorem dJ9_min_7cf53_5 : decode cJ9_min_7cf53 5 = .ok (.iload_n 0, 1) := by decide +kernel
theorem dJ9_min_7cf53_6 : decode cJ9_min_7cf53 6 = .ok (.goto 4, 3) := by decide +kernel
theorem dJ9_min_7cf53_9 : decode cJ9_min_7cf53 9 = .ok (.iload_n 1, 1) := by decide +kernel
theorem dJ9_min_7cf53_10 : decode cJ9_min_7cf53 10 = .ok (.ireturn, 1) := by decide +kernel
theorem dJ9_min_f86c9_0 : decode cJ9_min_f86c9 0 = .ok (.lload_n 0, 1) := by decide +kernel
theorem dJ9_min_f86c9_1 : decode cJ9_min_f86c9 1 = .ok (.lload_n 2, 1) := by decide +kernel
theorem dJ9_min_f86c9_2 : decode cJ9_min_f86c9 2 = .ok (.lcmp, 1) := by decide +kernel
theorem dJ9_min_f86c9_3 : decode cJ9_min_f86c9 3 = .ok (.ifCond .gt 7, 3) := by decide +kernel
theorem dJ9_min_f86c9_6 : decode cJ9_min_f86c9 6 = .ok (.lload_n 0, 1) := by decide +kernel
theorem dJ9_min_f86c9_7 : decode cJ9_min_f86c9 7 = .ok (.goto 4, 3) := by decide +kernel
theorem dJ9_min_f86c9_10 : decode cJ9_min_f86c9 10 = .ok (.lload_n 2, 1) := by decide +kernel
theorem dJ9_min_f86c9_11 : decode cJ9_min_f86c9 11 = .ok (.lreturn, 1) := by decide +kernel
theorem dJ7_fill_53178_0 : decode cJ7_fill_53178 0 = .ok (.iconst 0, 1) := by decide +kernel
theorem dJ7_fill_53178_1 : decode cJ7_fill_53178 1 = .ok (.istore_n 2, 1) := by decide +kernel
theorem dJ7_fill_53178_2 : decode cJ7_fill_53178 2 = .ok (.aload_n 0, 1) := by decide +kernel
theorem dJ7_fill_53178_3 : decode cJ7_fill_53178 3 = .ok (.arraylength, 1) := by decide +kernel
theorem dJ7_fill_53178_4 : decode cJ7_fill_53178 4 = .ok (.istore_n 3, 1) := by decide +kernel
theorem dJ7_fill_53178_5 : decode cJ7_fill_53178 5 = .ok (.iload_n 2, 1) := by decide +kernel
theorem dJ7_fill_53178_6 : decode cJ7_fill_53178 6 = .ok (.iload_n 3, 1) := by decide +kernel
theorem dJ7_fill_53178_7 : decode cJ7_fill_53178 7 = .ok (.if_icmp .ge 13, 3) := by decide +kernel
theorem dJ7_fill_53178_10 : decode cJ7_fill_53178 10 = .ok (.aload_n 0, 1) := by decide +kernel
theorem dJ7_fill_53178_11 : decode cJ7_fill_53178 11 = .ok (.iload_n 2, 1) := by decide +kernel
theorem dJ7_fill_53178_12 : decode cJ7_fill_53178 12 = .ok (.iload_n 1, 1) := by decide +kernel
theorem dJ7_fill_53178_13 : decode cJ7_fill_53178 13 = .ok (.iastore, 1) := by decide +kernel
theorem dJ7_fill_53178_14 : decode cJ7_fill_53178 14 = .ok (.iinc 2 1, 3) := by decide +kernel
theorem dJ7_fill_53178_17 : decode cJ7_fill_53178 17 = .ok (.goto (-12), 3) := by decide +kernel
theorem dJ7_fill_53178_20 : decode cJ7_fill_53178 20 = .ok (.return_, 1) := by decide +kernel
theorem dJ7_copyOf_59c91_0 : decode cJ7_copyOf_59c91 0 = .ok (.iload_n 1, 1) := by decide +kernel
theorem dJ7_copyOf_59c91_1 : decode cJ7_copyOf_59c91 1 = .ok (.aload_n 0, 1) := by decide +kernel
theorem dJ7_copyOf_59c91_2 : decode cJ7_copyOf_59c91 2 = .ok (.arraylength, 1) := by decide +kernel
theorem dJ7_copyOf_59c91_3 : decode cJ7_copyOf_59c91 3 = .ok (.if_icmp .ne 11, 3) := by decide +kernel
theorem dJ7_copyOf_59c91_6 : decode cJ7_copyOf_59c91 6 = .ok (.aload_n 0, 1) := by decide +kernel
theorem dJ7_copyOf_59c91_7 : decode cJ7_copyOf_59c91 7 = .ok (.invokevirtual 316, 3) := by decide +kernel
theorem dJ7_copyOf_59c91_10 : decode cJ7_copyOf_59c91 10 = .ok (.checkcast 317, 3) := by decide +kernel
theorem dJ7_copyOf_59c91_13 : decode cJ7_copyOf_59c91 13 = .ok (.areturn, 1) := by decide +kernel
theorem dJ7_copyOf_59c91_14 : decode cJ7_copyOf_59c91 14 = .ok (.iload_n 1, 1) := by decide +kernel
theorem dJ7_copyOf_59c91_15 : decode cJ7_copyOf_59c91 15 = .ok (.newarray .int, 2) := by decide +kernel
theorem dJ7_copyOf_59c91_17 : decode cJ7_copyOf_59c91 17 = .ok (.astore_n 2, 1) := by decide +kernel
theorem dJ7_copyOf_59c91_18 : decode cJ7_copyOf_59c91 18 = .ok (.aload_n 0, 1) := by decide +kernel
theorem dJ7_copyOf_59c91_19 : decode cJ7_copyOf_59c91 19 = .ok (.iconst 0, 1) := by decide +kernel
theorem dJ7_copyOf_59c91_20 : decode cJ7_copyOf_59c91 20 = .ok (.aload_n 2, 1) := by decide +kernel
theorem dJ7_copyOf_59c91_21 : decode cJ7_copyOf_59c91 21 = .ok (.iconst 0, 1) := by decide +kernel
theorem dJ7_copyOf_59c91_22 : decode cJ7_copyOf_59c91 22 = .ok (.aload_n 0, 1) := by decide +kernel
theorem dJ7_copyOf_59c91_23 : decode cJ7_copyOf_59c91 23 = .ok (.arraylength, 1) := by decide +kernel
theorem dJ7_copyOf_59c91_24 : decode cJ7_copyOf_59c91 24 = .ok (.iload_n 1, 1) := by decide +kernel
theorem dJ7_copyOf_59c91_25 : decode cJ7_copyOf_59c91 25 = .ok (.invokestatic 304, 3) := by decide +kernel
theorem dJ7_copyOf_59c91_28 : decode cJ7_copyOf_59c91 28 = .ok (.invokestatic 150, 3) := by decide +kernel
theorem dJ7_copyOf_59c91_31 : decode cJ7_copyOf_59c91 31 = .ok (.aload_n 2, 1) := by decide +kernel
theorem dJ7_copyOf_59c91_32 : decode cJ7_copyOf_59c91 32 = .ok (.areturn, 1) := by decide +kernel
abbrev vwCl : List vw_C := [(RX0, TX0, 4), (RX1, TX1, 1), (RX2, TX2, 5), (RX3, TX3, 9), (RX4, TX4, 11), (RX5, TX5, 5), (RX6, TX6, 4), (RX7, TX7, 3), (RX8, TX8, 2), (RX9, TX9, 14), (RX10, TX10, 50)]
