theorem dX8_firstFault_0 : decode cX8_firstFault 0 = .ok (.iconst 1, 1) := by decide +kernel
theorem dX8_firstFault_1 : decode cX8_firstFault 1 = .ok (.istore_n 1, 1) := by decide +kernel
theorem dX8_firstFault_2 : decode cX8_firstFault 2 = .ok (.iconst 0, 1) := by decide +kernel
theorem dX8_firstFault_3 : decode cX8_firstFault 3 = .ok (.istore_n 2, 1) := by decide +kernel
theorem dX8_firstFault_4 : decode cX8_firstFault 4 = .ok (.iconst 0, 1) := by decide +kernel
theorem dX8_firstFault_5 : decode cX8_firstFault 5 = .ok (.istore_n 3, 1) := by decide +kernel
theorem dX8_firstFault_6 : decode cX8_firstFault 6 = .ok (.iconst 0, 1) := by decide +kernel
theorem dX8_firstFault_7 : decode cX8_firstFault 7 = .ok (.istore 4, 2) := by decide +kernel
theorem dX8_firstFault_9 : decode cX8_firstFault 9 = .ok (.iload 4, 2) := by decide +kernel
theorem dX8_firstFault_11 : decode cX8_firstFault 11 = .ok (.aload_n 0, 1) := by decide +kernel
theorem dX8_firstFault_12 : decode cX8_firstFault 12 = .ok (.getfield 15, 3) := by decide +kernel
theorem dX8_firstFault_15 : decode cX8_firstFault 15 = .ok (.if_icmp .ge 111, 3) := by decide +kernel
theorem dX8_firstFault_18 : decode cX8_firstFault 18 = .ok (.aload_n 0, 1) := by decide +kernel
theorem dX8_firstFault_19 : decode cX8_firstFault 19 = .ok (.getfield 9, 3) := by decide +kernel
theorem dX8_firstFault_22 : decode cX8_firstFault 22 = .ok (.iload 4, 2) := by decide +kernel
theorem dX8_firstFault_24 : decode cX8_firstFault 24 = .ok (.iaload, 1) := by decide +kernel
theorem dX8_firstFault_25 : decode cX8_firstFault 25 = .ok (.istore 5, 2) := by decide +kernel
theorem dX8_firstFault_27 : decode cX8_firstFault 27 = .ok (.iload 5, 2) := by decide +kernel
theorem dX8_firstFault_29 : decode cX8_firstFault 29 = .ok (.invokestatic 19, 3) := by decide +kernel
theorem dX8_firstFault_32 : decode cX8_firstFault 32 = .ok (.ifCond .eq 27, 3) := by decide +kernel
theorem dX8_firstFault_35 : decode cX8_firstFault 35 = .ok (.iload_n 1, 1) := by decide +kernel
theorem dX8_firstFault_36 : decode cX8_firstFault 36 = .ok (.ifCond .ne 15, 3) := by decide +kernel
theorem dX8_firstFault_39 : decode cX8_firstFault 39 = .ok (.iload_n 3, 1) := by decide +kernel
theorem dX8_firstFault_40 : decode cX8_firstFault 40 = .ok (.ifCond .eq 8, 3) := by decide +kernel
theorem dX8_firstFault_43 : decode cX8_firstFault 43 = .ok (.iload_n 3, 1) := by decide +kernel
theorem dX8_firstFault_44 : decode cX8_firstFault 44 = .ok (.iconst 5, 1) := by decide +kernel
theorem dX8_firstFault_45 : decode cX8_firstFault 45 = .ok (.if_icmp .ne 6, 3) := by decide +kernel
theorem dX8_firstFault_48 : decode cX8_firstFault 48 = .ok (.iload 4, 2) := by decide +kernel
theorem dX8_firstFault_50 : decode cX8_firstFault 50 = .ok (.ireturn, 1) := by decide +kernel
theorem dX8_firstFault_51 : decode cX8_firstFault 51 = .ok (.iinc 3 1, 3) := by decide +kernel
theorem dX8_firstFault_54 : decode cX8_firstFault 54 = .ok (.iconst 0, 1) := by decide +kernel
theorem dX8_firstFault_55 : decode cX8_firstFault 55 = .ok (.istore_n 1, 1) := by decide +kernel
theorem dX8_firstFault_56 : decode cX8_firstFault 56 = .ok (.goto 64, 3) := by decide +kernel
theorem dX8_firstFault_59 : decode cX8_firstFault 59 = .ok (.iconst 0, 1) := by decide +kernel
theorem dX8_firstFault_60 : decode cX8_firstFault 60 = .ok (.istore_n 3, 1) := by decide +kernel
theorem dX8_firstFault_61 : decode cX8_firstFault 61 = .ok (.iload 5, 2) := by decide +kernel
theorem dX8_firstFault_63 : decode cX8_firstFault 63 = .ok (.bipush 32, 2) := by decide +kernel
theorem dX8_firstFault_65 : decode cX8_firstFault 65 = .ok (.if_icmp .ne 6, 3) := by decide +kernel
theorem dX8_firstFault_68 : decode cX8_firstFault 68 = .ok (.goto 52, 3) := by decide +kernel
theorem dX8_firstFault_71 : decode cX8_firstFault 71 = .ok (.iload 5, 2) := by decide +kernel
theorem dX8_firstFault_73 : decode cX8_firstFault 73 = .ok (.iload_n 1, 1) := by decide +kernel
theorem dX8_firstFault_74 : decode cX8_firstFault 74 = .ok (.iload_n 2, 1) := by decide +kernel
theorem dX8_firstFault_75 : decode cX8_firstFault 75 = .ok (.invokestatic 23, 3) := by decide +kernel
theorem dX8_firstFault_78 : decode cX8_firstFault 78 = .ok (.ifCond .ne 6, 3) := by decide +kernel
theorem dX8_firstFault_81 : decode cX8_firstFault 81 = .ok (.iload 4, 2) := by decide +kernel
theorem dX8_firstFault_83 : decode cX8_firstFault 83 = .ok (.ireturn, 1) := by decide +kernel
theorem dX8_firstFault_84 : decode cX8_firstFault 84 = .ok (.iload 5, 2) := by decide +kernel
theorem dX8_firstFault_86 : decode cX8_firstFault 86 = .ok (.bipush 40, 2) := by decide +kernel
theorem dX8_firstFault_88 : decode cX8_firstFault 88 = .ok (.if_icmp .ne 9, 3) := by decide +kernel
theorem dX8_firstFault_91 : decode cX8_firstFault 91 = .ok (.iinc 2 1, 3) := by decide +kernel
theorem dX8_firstFault_94 : decode cX8_firstFault 94 = .ok (.goto 26, 3) := by decide +kernel
theorem dX8_firstFault_97 : decode cX8_firstFault 97 = .ok (.iload 5, 2) := by decide +kernel
theorem dX8_firstFault_99 : decode cX8_firstFault 99 = .ok (.bipush 41, 2) := by decide +kernel
theorem dX8_firstFault_101 : decode cX8_firstFault 101 = .ok (.if_icmp .ne 9, 3) := by decide +kernel
theorem dX8_firstFault_104 : decode cX8_firstFault 104 = .ok (.iinc 2 (-1), 3) := by decide +kernel
theorem dX8_firstFault_107 : decode cX8_firstFault 107 = .ok (.goto 13, 3) := by decide +kernel
theorem dX8_firstFault_110 : decode cX8_firstFault 110 = .ok (.iload_n 1, 1) := by decide +kernel
theorem dX8_firstFault_111 : decode cX8_firstFault 111 = .ok (.ifCond .ne 7, 3) := by decide +kernel
theorem dX8_firstFault_114 : decode cX8_firstFault 114 = .ok (.iconst 1, 1) := by decide +kernel
theorem dX8_firstFault_115 : decode cX8_firstFault 115 = .ok (.goto 4, 3) := by decide +kernel
theorem dX8_firstFault_118 : decode cX8_firstFault 118 = .ok (.iconst 0, 1) := by decide +kernel
theorem dX8_firstFault_119 : decode cX8_firstFault 119 = .ok (.istore_n 1, 1) := by decide +kernel
theorem dX8_firstFault_120 : decode cX8_firstFault 120 = .ok (.iinc 4 1, 3) := by decide +kernel
theorem dX8_firstFault_123 : decode cX8_firstFault 123 = .ok (.goto (-114), 3) := by decide +kernel
theorem dX8_firstFault_126 : decode cX8_firstFault 126 = .ok (.iload_n 1, 1) := by decide +kernel
theorem dX8_firstFault_127 : decode cX8_firstFault 127 = .ok (.ifCond .ne 7, 3) := by decide +kernel
theorem dX8_firstFault_130 : decode cX8_firstFault 130 = .ok (.iload_n 2, 1) := by decide +kernel
theorem dX8_firstFault_131 : decode cX8_firstFault 131 = .ok (.ifCond .le 10, 3) := by decide +kernel
theorem dX8_firstFault_134 : decode cX8_firstFault 134 = .ok (.aload_n 0, 1) := by decide +kernel
theorem dX8_firstFault_135 : decode cX8_firstFault 135 = .ok (.getfield 15, 3) := by decide +kernel
theorem dX8_firstFault_138 : decode cX8_firstFault 138 = .ok (.goto 4, 3) := by decide +kernel
theorem dX8_firstFault_141 : decode cX8_firstFault 141 = .ok (.iconst (-1), 1) := by decide +kernel
theorem dX8_firstFault_142 : decode cX8_firstFault 142 = .ok (.ireturn, 1) := by decide +kernel
theorem dX8_fits_0 : decode cX8_fits 0 = .ok (.iload_n 0, 1) := by decide +kernel
theorem dX8_fits_1 : decode cX8_fits 1 = .ok (.lookupswitch 117 #[(40, 77), (41, 93), (42, 107), (43, 107), (45, 107), (47, 107), (100, 75), (108, 75)], 75) := by decide +kernel
theorem dX8_fits_76 : decode cX8_fits 76 = .ok (.iload_n 1, 1) := by decide +kernel
theorem dX8_fits_77 : decode cX8_fits 77 = .ok (.ireturn, 1) := by decide +kernel
theorem dX8_fits_78 : decode cX8_fits 78 = .ok (.iload_n 1, 1) := by decide +kernel
theorem dX8_fits_79 : decode cX8_fits 79 = .ok (.ifCond .eq 13, 3) := by decide +kernel
theorem dX8_fits_82 : decode cX8_fits 82 = .ok (.iload_n 2, 1) := by decide +kernel
theorem dX8_fits_83 : decode cX8_fits 83 = .ok (.bipush 8, 2) := by decide +kernel
theorem dX8_fits_85 : decode cX8_fits 85 = .ok (.if_icmp .ge 7, 3) := by decide +kernel
theorem dX8_fits_88 : decode cX8_fits 88 = .ok (.iconst 1, 1) := by decide +kernel
theorem dX8_fits_89 : decode cX8_fits 89 = .ok (.goto 4, 3) := by decide +kernel
theorem dX8_fits_92 : decode cX8_fits 92 = .ok (.iconst 0, 1) := by decide +kernel
theorem dX8_fits_93 : decode cX8_fits 93 = .ok (.ireturn, 1) := by decide +kernel
theorem dX8_fits_94 : decode cX8_fits 94 = .ok (.iload_n 1, 1) := by decide +kernel
theorem dX8_fits_95 : decode cX8_fits 95 = .ok (.ifCond .ne 11, 3) := by decide +kernel
theorem dX8_fits_98 : decode cX8_fits 98 = .ok (.iload_n 2, 1) := by decide +kernel
theorem dX8_fits_99 : decode cX8_fits 99 = .ok (.ifCond .le 7, 3) := by decide +kernel
theorem dX8_fits_102 : decode cX8_fits 102 = .ok (.iconst 1, 1) := by decide +kernel
theorem dX8_fits_103 : decode cX8_fits 103 = .ok (.goto 4, 3) := by decide +kernel
theorem dX8_fits_106 : decode cX8_fits 106 = .ok (.iconst 0, 1) := by decide +kernel
theorem dX8_fits_107 : decode cX8_fits 107 = .ok (.ireturn, 1) := by decide +kernel
theorem dX8_fits_108 : decode cX8_fits 108 = .ok (.iload_n 1, 1) := by decide +kernel
theorem dX8_fits_109 : decode cX8_fits 109 = .ok (.ifCond .ne 7, 3) := by decide +kernel
theorem dX8_fits_112 : decode cX8_fits 112 = .ok (.iconst 1, 1) := by decide +kernel
theorem dX8_fits_113 : decode cX8_fits 113 = .ok (.goto 4, 3) := by decide +kernel
theorem dX8_fits_116 : decode cX8_fits 116 = .ok (.iconst 0, 1) := by decide +kernel
theorem dX8_fits_117 : decode cX8_fits 117 = .ok (.ireturn, 1) := by decide +kernel
theorem dX8_fits_118 : decode cX8_fits 118 = .ok (.iconst 0, 1) := by decide +kernel
theorem dX8_fits_119 : decode cX8_fits 119 = .ok (.ireturn, 1) := by decide +kernel
set_option maxRecDepth 20000 in
theorem ggX8_tokens_X8_isDigit : GoodIn wsX8_tokens wsX8_isDigit := goodIn_r _ [7] (by decide +kernel) (by decide +kernel)
set_option maxRecDepth 20000 in
theorem gX8_tokens_X8_isDigit : GoodIn wsX8_tokens (va_wsS RX8 19 yX8_isDigit wsX8_isDigit) := goodIn_app (goodIn_of _ (by decide +kernel)) ggX8_tokens_X8_isDigit
set_option maxRecDepth 20000 in
theorem ggX8_tokens_J7_copyOf_59c91 : GoodIn wsX8_tokens wsJ7_copyOf_59c91 := goodIn_r _ [11, 12, 13, 14, 15, 16, 17, 2, 18, 19, 20, 21, 22, 23, 24, 25] (by decide +kernel) (by decide +kernel)
set_option maxRecDepth 20000 in
theorem gX8_tokens_J7_copyOf_59c91 : GoodIn wsX8_tokens (va_wsS RX8 27 yJ7_copyOf_59c91 wsJ7_copyOf_59c91) := goodIn_app (goodIn_of _ (by decide +kernel)) ggX8_tokens_J7_copyOf_59c91
theorem dX8_tokens_0 : decode cX8_tokens 0 = .ok (.aload_n 0, 1) := by decide +kernel
theorem dX8_tokens_1 : decode cX8_tokens 1 = .ok (.getfield 15, 3) := by decide +kernel
theorem dX8_tokens_4 : decode cX8_tokens 4 = .ok (.newarray .int, 2) := by decide +kernel
theorem dX8_tokens_6 : decode cX8_tokens 6 = .ok (.astore_n 1, 1) := by decide +kernel
theorem dX8_tokens_7 : decode cX8_tokens 7 = .ok (.iconst 0, 1) := by decide +kernel
theorem dX8_tokens_8 : decode cX8_tokens 8 = .ok (.istore_n 2, 1) := by decide +kernel
theorem dX8_tokens_9 : decode cX8_tokens 9 = .ok (.iconst 0, 1) := by decide +kernel
theorem dX8_tokens_10 : decode cX8_tokens 10 = .ok (.istore_n 3, 1) := by decide +kernel
theorem dX8_tokens_11 : decode cX8_tokens 11 = .ok (.iconst 0, 1) := by decide +kernel
theorem dX8_tokens_12 : decode cX8_tokens 12 = .ok (.istore 4, 2) := by decide +kernel
theorem dX8_tokens_14 : decode cX8_tokens 14 = .ok (.iload 4, 2) := by decide +kernel
theorem dX8_tokens_16 : decode cX8_tokens 16 = .ok (.aload_n 0, 1) := by decide +kernel
theorem dX8_tokens_17 : decode cX8_tokens 17 = .ok (.getfield 15, 3) := by decide +kernel
theorem dX8_tokens_20 : decode cX8_tokens 20 = .ok (.if_icmp .ge 90, 3) := by decide +kernel
theorem dX8_tokens_23 : decode cX8_tokens 23 = .ok (.aload_n 0, 1) := by decide +kernel
theorem dX8_tokens_24 : decode cX8_tokens 24 = .ok (.getfield 9, 3) := by decide +kernel
theorem dX8_tokens_27 : decode cX8_tokens 27 = .ok (.iload 4, 2) := by decide +kernel
theorem dX8_tokens_29 : decode cX8_tokens 29 = .ok (.iaload, 1) := by decide +kernel
theorem dX8_tokens_30 : decode cX8_tokens 30 = .ok (.istore 5, 2) := by decide +kernel
theorem dX8_tokens_32 : decode cX8_tokens 32 = .ok (.iload 5, 2) := by decide +kernel
theorem dX8_tokens_34 : decode cX8_tokens 34 = .ok (.invokestatic 19, 3) := by decide +kernel
theorem dX8_tokens_37 : decode cX8_tokens 37 = .ok (.ifCond .ne 24, 3) := by decide +kernel
theorem dX8_tokens_40 : decode cX8_tokens 40 = .ok (.iconst 0, 1) := by decide +kernel
theorem dX8_tokens_41 : decode cX8_tokens 41 = .ok (.istore_n 3, 1) := by decide +kernel
theorem dX8_tokens_42 : decode cX8_tokens 42 = .ok (.iload 5, 2) := by decide +kernel
theorem dX8_tokens_44 : decode cX8_tokens 44 = .ok (.bipush 32, 2) := by decide +kernel
theorem dX8_tokens_46 : decode cX8_tokens 46 = .ok (.if_icmp .eq 58, 3) := by decide +kernel
theorem dX8_tokens_49 : decode cX8_tokens 49 = .ok (.aload_n 1, 1) := by decide +kernel
theorem dX8_tokens_50 : decode cX8_tokens 50 = .ok (.iload_n 2, 1) := by decide +kernel
theorem dX8_tokens_51 : decode cX8_tokens 51 = .ok (.iload 5, 2) := by decide +kernel
theorem dX8_tokens_53 : decode cX8_tokens 53 = .ok (.ineg, 1) := by decide +kernel
theorem dX8_tokens_54 : decode cX8_tokens 54 = .ok (.iastore, 1) := by decide +kernel
theorem dX8_tokens_55 : decode cX8_tokens 55 = .ok (.iinc 2 1, 3) := by decide +kernel
theorem dX8_tokens_58 : decode cX8_tokens 58 = .ok (.goto 46, 3) := by decide +kernel
theorem dX8_tokens_61 : decode cX8_tokens 61 = .ok (.iload_n 3, 1) := by decide +kernel
theorem dX8_tokens_62 : decode cX8_tokens 62 = .ok (.ifCond .eq 29, 3) := by decide +kernel
theorem dX8_tokens_65 : decode cX8_tokens 65 = .ok (.iload_n 2, 1) := by decide +kernel
theorem dX8_tokens_66 : decode cX8_tokens 66 = .ok (.ifCond .le 25, 3) := by decide +kernel
theorem dX8_tokens_69 : decode cX8_tokens 69 = .ok (.aload_n 1, 1) := by decide +kernel
theorem dX8_tokens_70 : decode cX8_tokens 70 = .ok (.iload_n 2, 1) := by decide +kernel
theorem dX8_tokens_71 : decode cX8_tokens 71 = .ok (.iconst 1, 1) := by decide +kernel
theorem dX8_tokens_72 : decode cX8_tokens 72 = .ok (.isub, 1) := by decide +kernel
theorem dX8_tokens_73 : decode cX8_tokens 73 = .ok (.aload_n 1, 1) := by decide +kernel
theorem dX8_tokens_74 : decode cX8_tokens 74 = .ok (.iload_n 2, 1) := by decide +kernel
theorem dX8_tokens_75 : decode cX8_tokens 75 = .ok (.iconst 1, 1) := by decide +kernel
theorem dX8_tokens_76 : decode cX8_tokens 76 = .ok (.isub, 1) := by decide +kernel
theorem dX8_tokens_77 : decode cX8_tokens 77 = .ok (.iaload, 1) := by decide +kernel
theorem dX8_tokens_78 : decode cX8_tokens 78 = .ok (.bipush 10, 2) := by decide +kernel
theorem dX8_tokens_80 : decode cX8_tokens 80 = .ok (.imul, 1) := by decide +kernel
theorem dX8_tokens_81 : decode cX8_tokens 81 = .ok (.iload 5, 2) := by decide +kernel
theorem dX8_tokens_83 : decode cX8_tokens 83 = .ok (.iadd, 1) := by decide +kernel
theorem dX8_tokens_84 : decode cX8_tokens 84 = .ok (.bipush 48, 2) := by decide +kernel
theorem dX8_tokens_86 : decode cX8_tokens 86 = .ok (.isub, 1) := by decide +kernel
theorem dX8_tokens_87 : decode cX8_tokens 87 = .ok (.iastore, 1) := by decide +kernel
theorem dX8_tokens_88 : decode cX8_tokens 88 = .ok (.goto 16, 3) := by decide +kernel
theorem dX8_tokens_91 : decode cX8_tokens 91 = .ok (.aload_n 1, 1) := by decide +kernel
theorem dX8_tokens_92 : decode cX8_tokens 92 = .ok (.iload_n 2, 1) := by decide +kernel
theorem dX8_tokens_93 : decode cX8_tokens 93 = .ok (.iload 5, 2) := by decide +kernel
theorem dX8_tokens_95 : decode cX8_tokens 95 = .ok (.bipush 48, 2) := by decide +kernel
theorem dX8_tokens_97 : decode cX8_tokens 97 = .ok (.isub, 1) := by decide +kernel
theorem dX8_tokens_98 : decode cX8_tokens 98 = .ok (.iastore, 1) := by decide +kernel
theorem dX8_tokens_99 : decode cX8_tokens 99 = .ok (.iinc 2 1, 3) := by decide +kernel
theorem dX8_tokens_102 : decode cX8_tokens 102 = .ok (.iconst 1, 1) := by decide +kernel
theorem dX8_tokens_103 : decode cX8_tokens 103 = .ok (.istore_n 3, 1) := by decide +kernel
theorem dX8_tokens_104 : decode cX8_tokens 104 = .ok (.iinc 4 1, 3) := by decide +kernel
theorem dX8_tokens_107 : decode cX8_tokens 107 = .ok (.goto (-93), 3) := by decide +kernel
theorem dX8_tokens_110 : decode cX8_tokens 110 = .ok (.aload_n 1, 1) := by decide +kernel
theorem dX8_tokens_111 : decode cX8_tokens 111 = .ok (.iload_n 2, 1) := by decide +kernel
theorem dX8_tokens_112 : decode cX8_tokens 112 = .ok (.invokestatic 27, 3) := by decide +kernel
theorem dX8_tokens_115 : decode cX8_tokens 115 = .ok (.areturn, 1) := by decide +kernel
theorem dX8_isDigit_0 : decode cX8_isDigit 0 = .ok (.iload_n 0, 1) := by decide +kernel
theorem dX8_isDigit_1 : decode cX8_isDigit 1 = .ok (.bipush 48, 2) := by decide +kernel
theorem dX8_isDigit_3 : decode cX8_isDigit 3 = .ok (.if_icmp .lt 13, 3) := by decide +kernel
theorem dX8_isDigit_6 : decode cX8_isDigit 6 = .ok (.iload_n 0, 1) := by decide +kernel
theorem dX8_isDigit_7 : decode cX8_isDigit 7 = .ok (.bipush 57, 2) := by decide +kernel
theorem dX8_isDigit_9 : decode cX8_isDigit 9 = .ok (.if_icmp .gt 7, 3) := by decide +kernel
theorem dX8_isDigit_12 : decode cX8_isDigit 12 = .ok (.iconst 1, 1) := by decide +kernel
theorem dX8_isDigit_13 : decode cX8_isDigit 13 = .ok (.goto 4, 3) := by decide +kernel
theorem dX8_isDigit_16 : decode cX8_isDigit 16 = .ok (.iconst 0, 1) := by decide +kernel
theorem dX8_isDigit_17 : decode cX8_isDigit 17 = .ok (.ireturn, 1) := by decide +kernel
set_option maxRecDepth 20000 in
theorem ggX9_init_X8_init : GoodIn wsX9_init wsX8_init := goodIn_r _ [40, 41, 2, 3, 19, 42, 43, 103, 104] (by decide +kernel) (by decide +kernel)
set_option maxRecDepth 20000 in
theorem gX9_init_X8_init_n9 : GoodIn wsX9_init (wsX8_init) := ggX9_init_X8_init
set_option maxRecDepth 20000 in
theorem ggX9_init_X5_init : GoodIn wsX9_init wsX5_init := goodIn_r _ [45, 46, 2, 3, 47, 48, 49, 19, 50, 51, 52, 119, 120, 121, 122, 123] (by decide +kernel) (by decide +kernel)
set_option maxRecDepth 20000 in
theorem gX9_init_X5_init_n18 : GoodIn wsX9_init (wsX5_init) := ggX9_init_X5_init
set_option maxRecDepth 20000 in
theorem ggX9_init_X6_init : GoodIn wsX9_init wsX6_init := goodIn_r _ [55, 56, 2, 3, 57, 19, 58, 59, 60, 124, 125, 126, 127] (by decide +kernel) (by decide +kernel)
set_option maxRecDepth 20000 in
theorem gX9_init_X6_init : GoodIn wsX9_init (wsX6_init) := ggX9_init_X6_init
set_option maxRecDepth 20000 in
theorem ggX9_init_X2_init : GoodIn wsX9_init wsX2_init := goodIn_r _ [62, 63, 2, 3, 19, 64, 65, 66, 67, 68, 128, 129, 130, 131, 132] (by decide +kernel) (by decide +kernel)
set_option maxRecDepth 20000 in
theorem gX9_init_X2_init_n59 : GoodIn wsX9_init (wsX2_init) := ggX9_init_X2_init
set_option maxRecDepth 20000 in
theorem ggX9_init_X4_init : GoodIn wsX9_init wsX4_init := goodIn_r _ [70, 71, 2, 3, 72, 73, 74, 75, 76, 19, 77, 78, 79, 80, 81, 82, 83, 84, 85, 86, 87, 88, 89, 90, 91, 148, 149, 150, 133, 134, 135, 136, 137, 138, 139, 140, 141, 142, 143] (by decide +kernel) (by decide +kernel)
set_option maxRecDepth 20000 in
theorem gX9_init_X4_init_n66 : GoodIn wsX9_init (wsX4_init) := ggX9_init_X4_init
set_option maxRecDepth 20000 in
theorem ggX9_init_X0_init : GoodIn wsX9_init wsX0_init := goodIn_r _ [93, 94, 2, 3, 95, 96, 97, 98, 144, 145, 146, 147] (by decide +kernel) (by decide +kernel)
set_option maxRecDepth 20000 in
theorem gX9_init_X0_init_n73 : GoodIn wsX9_init (wsX0_init) := ggX9_init_X0_init
set_option maxRecDepth 20000 in
theorem ggX9_init_J7_fill_53178 : GoodIn wsX9_init wsJ7_fill_53178 := goodIn_r _ [102] (by decide +kernel) (by decide +kernel)
set_option maxRecDepth 20000 in
theorem gX9_init_J7_fill_53178 : GoodIn wsX9_init (va_wsS RX9 85 yJ7_fill_53178 wsJ7_fill_53178) := goodIn_app (goodIn_of _ (by decide +kernel)) ggX9_init_J7_fill_53178
theorem dX9_init_0 : decode cX9_init 0 = .ok (.aload_n 0, 1) := by decide +kernel
theorem dX9_init_1 : decode cX9_init 1 = .ok (.invokespecial 1, 3) := by decide +kernel
theorem dX9_init_4 : decode cX9_init 4 = .ok (.aload_n 0, 1) := by decide +kernel
theorem dX9_init_5 : decode cX9_init 5 = .ok (.new 7, 3) := by decide +kernel
theorem dX9_init_8 : decode cX9_init 8 = .ok (.dup, 1) := by decide +kernel
theorem dX9_init_9 : decode cX9_init 9 = .ok (.invokespecial 9, 3) := by decide +kernel
theorem dX9_init_12 : decode cX9_init 12 = .ok (.putfield 10, 3) := by decide +kernel
theorem dX9_init_15 : decode cX9_init 15 = .ok (.aload_n 0, 1) := by decide +kernel
theorem dX9_init_16 : decode cX9_init 16 = .ok (.new 16, 3) := by decide +kernel
theorem dX9_init_19 : decode cX9_init 19 = .ok (.dup, 1) := by decide +kernel
theorem dX9_init_20 : decode cX9_init 20 = .ok (.invokespecial 18, 3) := by decide +kernel
theorem dX9_init_23 : decode cX9_init 23 = .ok (.putfield 19, 3) := by decide +kernel
theorem dX9_init_26 : decode cX9_init 26 = .ok (.aload_n 0, 1) := by decide +kernel
theorem dX9_init_27 : decode cX9_init 27 = .ok (.new 23, 3) := by decide +kernel
theorem dX9_init_30 : decode cX9_init 30 = .ok (.dup, 1) := by decide +kernel
theorem dX9_init_31 : decode cX9_init 31 = .ok (.bipush 20, 2) := by decide +kernel
theorem dX9_init_33 : decode cX9_init 33 = .ok (.invokespecial 25, 3) := by decide +kernel
theorem dX9_init_36 : decode cX9_init 36 = .ok (.putfield 28, 3) := by decide +kernel
theorem dX9_init_39 : decode cX9_init 39 = .ok (.aload_n 0, 1) := by decide +kernel
theorem dX9_init_40 : decode cX9_init 40 = .ok (.bipush 20, 2) := by decide +kernel
theorem dX9_init_42 : decode cX9_init 42 = .ok (.anewarray 32, 3) := by decide +kernel
theorem dX9_init_45 : decode cX9_init 45 = .ok (.putfield 34, 3) := by decide +kernel
theorem dX9_init_48 : decode cX9_init 48 = .ok (.aload_n 0, 1) := by decide +kernel
theorem dX9_init_49 : decode cX9_init 49 = .ok (.new 23, 3) := by decide +kernel
theorem dX9_init_52 : decode cX9_init 52 = .ok (.dup, 1) := by decide +kernel
theorem dX9_init_53 : decode cX9_init 53 = .ok (.bipush 60, 2) := by decide +kernel
theorem dX9_init_55 : decode cX9_init 55 = .ok (.invokespecial 25, 3) := by decide +kernel
theorem dX9_init_58 : decode cX9_init 58 = .ok (.putfield 38, 3) := by decide +kernel
theorem dX9_init_61 : decode cX9_init 61 = .ok (.aload_n 0, 1) := by decide +kernel
theorem dX9_init_62 : decode cX9_init 62 = .ok (.bipush 60, 2) := by decide +kernel
theorem dX9_init_64 : decode cX9_init 64 = .ok (.newarray .int, 2) := by decide +kernel
theorem dX9_init_66 : decode cX9_init 66 = .ok (.putfield 41, 3) := by decide +kernel
theorem dX9_init_69 : decode cX9_init 69 = .ok (.aload_n 0, 1) := by decide +kernel
theorem dX9_init_70 : decode cX9_init 70 = .ok (.bipush 100, 2) := by decide +kernel
theorem dX9_init_72 : decode cX9_init 72 = .ok (.anewarray 45, 3) := by decide +kernel
theorem dX9_init_75 : decode cX9_init 75 = .ok (.putfield 47, 3) := by decide +kernel
theorem dX9_init_78 : decode cX9_init 78 = .ok (.aload_n 0, 1) := by decide +kernel
theorem dX9_init_79 : decode cX9_init 79 = .ok (.bipush 6, 2) := by decide +kernel
theorem dX9_init_81 : decode cX9_init 81 = .ok (.newarray .int, 2) := by decide +kernel
theorem dX9_init_83 : decode cX9_init 83 = .ok (.putfield 51, 3) := by decide +kernel
theorem dX9_init_86 : decode cX9_init 86 = .ok (.aload_n 0, 1) := by decide +kernel
theorem dX9_init_87 : decode cX9_init 87 = .ok (.bipush 100, 2) := by decide +kernel
theorem dX9_init_89 : decode cX9_init 89 = .ok (.newarray .int, 2) := by decide +kernel
theorem dX9_init_91 : decode cX9_init 91 = .ok (.putfield 54, 3) := by decide +kernel
theorem dX9_init_94 : decode cX9_init 94 = .ok (.aload_n 0, 1) := by decide +kernel
theorem dX9_init_95 : decode cX9_init 95 = .ok (.new 57, 3) := by decide +kernel
theorem dX9_init_98 : decode cX9_init 98 = .ok (.dup, 1) := by decide +kernel
theorem dX9_init_99 : decode cX9_init 99 = .ok (.invokespecial 59, 3) := by decide +kernel
theorem dX9_init_102 : decode cX9_init 102 = .ok (.putfield 60, 3) := by decide +kernel
theorem dX9_init_105 : decode cX9_init 105 = .ok (.aload_n 0, 1) := by decide +kernel
theorem dX9_init_106 : decode cX9_init 106 = .ok (.new 64, 3) := by decide +kernel
theorem dX9_init_109 : decode cX9_init 109 = .ok (.dup, 1) := by decide +kernel
theorem dX9_init_110 : decode cX9_init 110 = .ok (.invokespecial 66, 3) := by decide +kernel
theorem dX9_init_113 : decode cX9_init 113 = .ok (.putfield 67, 3) := by decide +kernel
theorem dX9_init_116 : decode cX9_init 116 = .ok (.aload_n 0, 1) := by decide +kernel
theorem dX9_init_117 : decode cX9_init 117 = .ok (.new 71, 3) := by decide +kernel
theorem dX9_init_120 : decode cX9_init 120 = .ok (.dup, 1) := by decide +kernel
theorem dX9_init_121 : decode cX9_init 121 = .ok (.invokespecial 73, 3) := by decide +kernel
theorem dX9_init_124 : decode cX9_init 124 = .ok (.putfield 74, 3) := by decide +kernel
theorem dX9_init_127 : decode cX9_init 127 = .ok (.aload_n 0, 1) := by decide +kernel
theorem dX9_init_128 : decode cX9_init 128 = .ok (.iconst 0, 1) := by decide +kernel
theorem dX9_init_129 : decode cX9_init 129 = .ok (.putfield 78, 3) := by decide +kernel
theorem dX9_init_132 : decode cX9_init 132 = .ok (.aload_n 0, 1) := by decide +kernel
theorem dX9_init_133 : decode cX9_init 133 = .ok (.iconst 0, 1) := by decide +kernel
theorem dX9_init_134 : decode cX9_init 134 = .ok (.putfield 82, 3) := by decide +kernel
theorem dX9_init_137 : decode cX9_init 137 = .ok (.aload_n 0, 1) := by decide +kernel
theorem dX9_init_138 : decode cX9_init 138 = .ok (.getfield 51, 3) := by decide +kernel
theorem dX9_init_141 : decode cX9_init 141 = .ok (.iconst 1, 1) := by decide +kernel
theorem dX9_init_142 : decode cX9_init 142 = .ok (.invokestatic 85, 3) := by decide +kernel
theorem dX9_init_145 : decode cX9_init 145 = .ok (.return_, 1) := by decide +kernel
set_option maxRecDepth 20000 in
theorem ggX9_feed_X8_bytesIn : GoodIn wsX9_feed wsX8_bytesIn := goodIn_r _ [5] (by decide +kernel) (by decide +kernel)
set_option maxRecDepth 20000 in
theorem gX9_feed_X8_bytesIn : GoodIn wsX9_feed (va_wsS RX9 91 yX8_bytesIn wsX8_bytesIn) := goodIn_app (goodIn_of _ (by decide +kernel)) ggX9_feed_X8_bytesIn
set_option maxRecDepth 20000 in
theorem ggX9_feed_X8_append : GoodIn wsX9_feed wsX8_append := goodIn_r _ [9, 10, 11, 26, 27] (by decide +kernel) (by decide +kernel)
set_option maxRecDepth 20000 in
theorem gX9_feed_X8_append : GoodIn wsX9_feed (wsV RX9 98 RX8 yX8_append wsX8_append) := goodIn_app (goodIn_of _ (by decide +kernel)) ggX9_feed_X8_append
theorem dX9_feed_0 : decode cX9_feed 0 = .ok (.iload_n 1, 1) := by decide +kernel
theorem dX9_feed_1 : decode cX9_feed 1 = .ok (.invokestatic 91, 3) := by decide +kernel
theorem dX9_feed_4 : decode cX9_feed 4 = .ok (.iload_n 2, 1) := by decide +kernel
theorem dX9_feed_5 : decode cX9_feed 5 = .ok (.invokestatic 91, 3) := by decide +kernel
theorem dX9_feed_8 : decode cX9_feed 8 = .ok (.iadd, 1) := by decide +kernel
theorem dX9_feed_9 : decode cX9_feed 9 = .ok (.iload_n 3, 1) := by decide +kernel
theorem dX9_feed_10 : decode cX9_feed 10 = .ok (.invokestatic 91, 3) := by decide +kernel
theorem dX9_feed_13 : decode cX9_feed 13 = .ok (.iadd, 1) := by decide +kernel
theorem dX9_feed_14 : decode cX9_feed 14 = .ok (.iload 4, 2) := by decide +kernel
theorem dX9_feed_16 : decode cX9_feed 16 = .ok (.invokestatic 91, 3) := by decide +kernel
theorem dX9_feed_19 : decode cX9_feed 19 = .ok (.iadd, 1) := by decide +kernel
theorem dX9_feed_20 : decode cX9_feed 20 = .ok (.iload 5, 2) := by decide +kernel
theorem dX9_feed_22 : decode cX9_feed 22 = .ok (.invokestatic 91, 3) := by decide +kernel
theorem dX9_feed_25 : decode cX9_feed 25 = .ok (.iadd, 1) := by decide +kernel
theorem dX9_feed_26 : decode cX9_feed 26 = .ok (.istore 6, 2) := by decide +kernel
theorem dX9_feed_28 : decode cX9_feed 28 = .ok (.aload_n 0, 1) := by decide +kernel
theorem dX9_feed_29 : decode cX9_feed 29 = .ok (.getfield 10, 3) := by decide +kernel
theorem dX9_feed_32 : decode cX9_feed 32 = .ok (.getfield 95, 3) := by decide +kernel
theorem dX9_feed_35 : decode cX9_feed 35 = .ok (.iload 6, 2) := by decide +kernel
theorem dX9_feed_37 : decode cX9_feed 37 = .ok (.iadd, 1) := by decide +kernel
theorem dX9_feed_38 : decode cX9_feed 38 = .ok (.bipush 120, 2) := by decide +kernel
theorem dX9_feed_40 : decode cX9_feed 40 = .ok (.if_icmp .le 5, 3) := by decide +kernel
theorem dX9_feed_43 : decode cX9_feed 43 = .ok (.iconst (-1), 1) := by decide +kernel
theorem dX9_feed_44 : decode cX9_feed 44 = .ok (.ireturn, 1) := by decide +kernel
theorem dX9_feed_45 : decode cX9_feed 45 = .ok (.aload_n 0, 1) := by decide +kernel
theorem dX9_feed_46 : decode cX9_feed 46 = .ok (.getfield 10, 3) := by decide +kernel
theorem dX9_feed_49 : decode cX9_feed 49 = .ok (.iload_n 1, 1) := by decide +kernel
theorem dX9_feed_50 : decode cX9_feed 50 = .ok (.invokevirtual 98, 3) := by decide +kernel
theorem dX9_feed_53 : decode cX9_feed 53 = .ok (.aload_n 0, 1) := by decide +kernel
theorem dX9_feed_54 : decode cX9_feed 54 = .ok (.getfield 10, 3) := by decide +kernel
theorem dX9_feed_57 : decode cX9_feed 57 = .ok (.iload_n 2, 1) := by decide +kernel
theorem dX9_feed_58 : decode cX9_feed 58 = .ok (.invokevirtual 98, 3) := by decide +kernel
theorem dX9_feed_61 : decode cX9_feed 61 = .ok (.aload_n 0, 1) := by decide +kernel
theorem dX9_feed_62 : decode cX9_feed 62 = .ok (.getfield 10, 3) := by decide +kernel
theorem dX9_feed_65 : decode cX9_feed 65 = .ok (.iload_n 3, 1) := by decide +kernel
theorem dX9_feed_66 : decode cX9_feed 66 = .ok (.invokevirtual 98, 3) := by decide +kernel
theorem dX9_feed_69 : decode cX9_feed 69 = .ok (.aload_n 0, 1) := by decide +kernel
theorem dX9_feed_70 : decode cX9_feed 70 = .ok (.getfield 10, 3) := by decide +kernel
theorem dX9_feed_73 : decode cX9_feed 73 = .ok (.iload 4, 2) := by decide +kernel
theorem dX9_feed_75 : decode cX9_feed 75 = .ok (.invokevirtual 98, 3) := by decide +kernel
theorem dX9_feed_78 : decode cX9_feed 78 = .ok (.aload_n 0, 1) := by decide +kernel
theorem dX9_feed_79 : decode cX9_feed 79 = .ok (.getfield 10, 3) := by decide +kernel
theorem dX9_feed_82 : decode cX9_feed 82 = .ok (.iload 5, 2) := by decide +kernel
theorem dX9_feed_84 : decode cX9_feed 84 = .ok (.invokevirtual 98, 3) := by decide +kernel
theorem dX9_feed_87 : decode cX9_feed 87 = .ok (.aload_n 0, 1) := by decide +kernel
theorem dX9_feed_88 : decode cX9_feed 88 = .ok (.getfield 10, 3) := by decide +kernel
theorem dX9_feed_91 : decode cX9_feed 91 = .ok (.getfield 95, 3) := by decide +kernel
theorem dX9_feed_94 : decode cX9_feed 94 = .ok (.ireturn, 1) := by decide +kernel
set_option maxRecDepth 20000 in
theorem ggX9_end_X9_within : GoodIn wsX9_end wsX9_within := goodIn_r _ [5] (by decide +kernel) (by decide +kernel)
set_option maxRecDepth 20000 in
theorem gX9_end_X9_within : GoodIn wsX9_end (va_wsS RX9 101 yX9_within wsX9_within) := goodIn_app (goodIn_of _ (by decide +kernel)) ggX9_end_X9_within
theorem dX9_end_0 : decode cX9_end 0 = .ok (.iload_n 1, 1) := by decide +kernel
theorem dX9_end_1 : decode cX9_end 1 = .ok (.iconst 0, 1) := by decide +kernel
theorem dX9_end_2 : decode cX9_end 2 = .ok (.aload_n 0, 1) := by decide +kernel
theorem dX9_end_3 : decode cX9_end 3 = .ok (.getfield 10, 3) := by decide +kernel
theorem dX9_end_6 : decode cX9_end 6 = .ok (.getfield 95, 3) := by decide +kernel
theorem dX9_end_9 : decode cX9_end 9 = .ok (.invokestatic 101, 3) := by decide +kernel
theorem dX9_end_12 : decode cX9_end 12 = .ok (.ifCond .ne 5, 3) := by decide +kernel
theorem dX9_end_15 : decode cX9_end 15 = .ok (.iconst 0, 1) := by decide +kernel
theorem dX9_end_16 : decode cX9_end 16 = .ok (.ireturn, 1) := by decide +kernel
theorem dX9_end_17 : decode cX9_end 17 = .ok (.aload_n 0, 1) := by decide +kernel
theorem dX9_end_18 : decode cX9_end 18 = .ok (.getfield 10, 3) := by decide +kernel
theorem dX9_end_21 : decode cX9_end 21 = .ok (.iload_n 1, 1) := by decide +kernel
theorem dX9_end_22 : decode cX9_end 22 = .ok (.putfield 95, 3) := by decide +kernel
theorem dX9_end_25 : decode cX9_end 25 = .ok (.iconst 1, 1) := by decide +kernel
theorem dX9_end_26 : decode cX9_end 26 = .ok (.ireturn, 1) := by decide +kernel
set_option maxRecDepth 20000 in
theorem ggX9_fault_X8_firstFault : GoodIn wsX9_fault wsX8_firstFault := goodIn_r _ [6, 7, 8, 9, 10, 5, 11, 12, 13, 14, 29, 30] (by decide +kernel) (by decide +kernel)
set_option maxRecDepth 20000 in
theorem gX9_fault_X8_firstFault : GoodIn wsX9_fault (wsV RX9 105 RX8 yX8_firstFault wsX8_firstFault) := goodIn_app (goodIn_of _ (by decide +kernel)) ggX9_fault_X8_firstFault
theorem dX9_fault_0 : decode cX9_fault 0 = .ok (.aload_n 0, 1) := by decide +kernel
theorem dX9_fault_1 : decode cX9_fault 1 = .ok (.getfield 10, 3) := by decide +kernel
theorem dX9_fault_4 : decode cX9_fault 4 = .ok (.invokevirtual 105, 3) := by decide +kernel
theorem dX9_fault_7 : decode cX9_fault 7 = .ok (.ireturn, 1) := by decide +kernel
set_option maxRecDepth 20000 in
theorem ggX9_law_X9_isDay : GoodIn wsX9_law wsX9_isDay := goodIn_r _ [11, 12, 13, 10, 14] (by decide +kernel) (by decide +kernel)
set_option maxRecDepth 20000 in
theorem gX9_law_X9_isDay : GoodIn wsX9_law (va_wsS RX9 109 yX9_isDay wsX9_isDay) := goodIn_app (goodIn_of _ (by decide +kernel)) ggX9_law_X9_isDay
set_option maxRecDepth 20000 in
theorem ggX9_law_X6_isFull : GoodIn wsX9_law wsX6_isFull := goodIn_r _ [19, 20, 21, 88, 89, 90, 91] (by decide +kernel) (by decide +kernel)
set_option maxRecDepth 20000 in
theorem gX9_law_X6_isFull : GoodIn wsX9_law (wsV RX9 113 RX6 yX6_isFull wsX6_isFull) := goodIn_app (goodIn_of _ (by decide +kernel)) ggX9_law_X6_isFull
set_option maxRecDepth 20000 in
theorem ggX9_law_X8_firstFault : GoodIn wsX9_law wsX8_firstFault := goodIn_r _ [26, 27, 28, 29, 30, 25, 31, 32, 33, 34, 86, 87] (by decide +kernel) (by decide +kernel)
set_option maxRecDepth 20000 in
theorem gX9_law_X8_firstFault : GoodIn wsX9_law (wsV RX9 105 RX8 yX8_firstFault wsX8_firstFault) := goodIn_app (goodIn_of _ (by decide +kernel)) ggX9_law_X8_firstFault
set_option maxRecDepth 20000 in
theorem ggX9_law_X6_enter : GoodIn wsX9_law wsX6_enter := goodIn_r _ [38, 21, 20, 39, 40, 88, 89, 90, 91] (by decide +kernel) (by decide +kernel)
set_option maxRecDepth 20000 in
theorem gX9_law_X6_enter : GoodIn wsX9_law (wsV RX9 117 RX6 yX6_enter wsX6_enter) := goodIn_app (goodIn_of _ (by decide +kernel)) ggX9_law_X6_enter
set_option maxRecDepth 20000 in
theorem ggX9_law_X8_tokens : GoodIn wsX9_law wsX8_tokens := goodIn_r _ [44, 27, 45, 28, 29, 30, 25, 31, 46, 47, 48, 49, 50, 51, 52, 53, 54, 55, 56, 57, 58, 59, 60, 61, 62, 63, 86, 87] (by decide +kernel) (by decide +kernel)
set_option maxRecDepth 20000 in
theorem gX9_law_X8_tokens : GoodIn wsX9_law (wsV RX9 121 RX8 yX8_tokens wsX8_tokens) := goodIn_app (goodIn_of _ (by decide +kernel)) ggX9_law_X8_tokens
set_option maxRecDepth 20000 in
theorem ggX9_law_X1_init : GoodIn wsX9_law wsX1_init := goodIn_r _ [66, 67, 68, 69, 70, 85] (by decide +kernel) (by decide +kernel)
set_option maxRecDepth 20000 in
theorem gX9_law_X1_init : GoodIn wsX9_law (wsX1_init) := ggX9_law_X1_init
theorem dX9_law_0 : decode cX9_law 0 = .ok (.iload_n 1, 1) := by decide +kernel
theorem dX9_law_1 : decode cX9_law 1 = .ok (.invokestatic 109, 3) := by decide +kernel
theorem dX9_law_4 : decode cX9_law 4 = .ok (.ifCond .eq 24, 3) := by decide +kernel
theorem dX9_law_7 : decode cX9_law 7 = .ok (.aload_n 0, 1) := by decide +kernel
theorem dX9_law_8 : decode cX9_law 8 = .ok (.getfield 28, 3) := by decide +kernel
theorem dX9_law_11 : decode cX9_law 11 = .ok (.invokevirtual 113, 3) := by decide +kernel
theorem dX9_law_14 : decode cX9_law 14 = .ok (.ifCond .ne 14, 3) := by decide +kernel
theorem dX9_law_17 : decode cX9_law 17 = .ok (.aload_n 0, 1) := by decide +kernel
theorem dX9_law_18 : decode cX9_law 18 = .ok (.getfield 10, 3) := by decide +kernel
theorem dX9_law_21 : decode cX9_law 21 = .ok (.invokevirtual 105, 3) := by decide +kernel
theorem dX9_law_24 : decode cX9_law 24 = .ok (.iconst (-1), 1) := by decide +kernel
theorem dX9_law_25 : decode cX9_law 25 = .ok (.if_icmp .eq 5, 3) := by decide +kernel
theorem dX9_law_28 : decode cX9_law 28 = .ok (.iconst (-1), 1) := by decide +kernel
theorem dX9_law_29 : decode cX9_law 29 = .ok (.ireturn, 1) := by decide +kernel
theorem dX9_law_30 : decode cX9_law 30 = .ok (.aload_n 0, 1) := by decide +kernel
theorem dX9_law_31 : decode cX9_law 31 = .ok (.getfield 28, 3) := by decide +kernel
theorem dX9_law_34 : decode cX9_law 34 = .ok (.iconst 0, 1) := by decide +kernel
theorem dX9_law_35 : decode cX9_law 35 = .ok (.iload_n 1, 1) := by decide +kernel
theorem dX9_law_36 : decode cX9_law 36 = .ok (.aload_n 0, 1) := by decide +kernel
theorem dX9_law_37 : decode cX9_law 37 = .ok (.getfield 82, 3) := by decide +kernel
theorem dX9_law_40 : decode cX9_law 40 = .ok (.invokevirtual 117, 3) := by decide +kernel
theorem dX9_law_43 : decode cX9_law 43 = .ok (.istore_n 2, 1) := by decide +kernel
theorem dX9_law_44 : decode cX9_law 44 = .ok (.aload_n 0, 1) := by decide +kernel
theorem dX9_law_45 : decode cX9_law 45 = .ok (.getfield 34, 3) := by decide +kernel
theorem dX9_law_48 : decode cX9_law 48 = .ok (.iload_n 2, 1) := by decide +kernel
theorem dX9_law_49 : decode cX9_law 49 = .ok (.new 32, 3) := by decide +kernel
theorem dX9_law_52 : decode cX9_law 52 = .ok (.dup, 1) := by decide +kernel
theorem dX9_law_53 : decode cX9_law 53 = .ok (.aload_n 0, 1) := by decide +kernel
theorem dX9_law_54 : decode cX9_law 54 = .ok (.getfield 10, 3) := by decide +kernel
theorem dX9_law_57 : decode cX9_law 57 = .ok (.invokevirtual 121, 3) := by decide +kernel
theorem dX9_law_60 : decode cX9_law 60 = .ok (.invokespecial 125, 3) := by decide +kernel
theorem dX9_law_63 : decode cX9_law 63 = .ok (.aastore, 1) := by decide +kernel
theorem dX9_law_64 : decode cX9_law 64 = .ok (.aload_n 0, 1) := by decide +kernel
theorem dX9_law_65 : decode cX9_law 65 = .ok (.getfield 10, 3) := by decide +kernel
theorem dX9_law_68 : decode cX9_law 68 = .ok (.iconst 0, 1) := by decide +kernel
theorem dX9_law_69 : decode cX9_law 69 = .ok (.putfield 95, 3) := by decide +kernel
theorem dX9_law_72 : decode cX9_law 72 = .ok (.iload_n 2, 1) := by decide +kernel
theorem dX9_law_73 : decode cX9_law 73 = .ok (.ireturn, 1) := by decide +kernel
set_option maxRecDepth 20000 in
theorem ggX9_value_X9_within : GoodIn wsX9_value wsX9_within := goodIn_r _ [9] (by decide +kernel) (by decide +kernel)
set_option maxRecDepth 20000 in
theorem gX9_value_X9_within : GoodIn wsX9_value (va_wsS RX9 101 yX9_within wsX9_within) := goodIn_app (goodIn_of _ (by decide +kernel)) ggX9_value_X9_within
set_option maxRecDepth 20000 in
theorem ggX9_value_X9_isSizeByLaw : GoodIn wsX9_value wsX9_isSizeByLaw := goodIn_r _ [12, 6, 7, 8, 9] (by decide +kernel) (by decide +kernel)
set_option maxRecDepth 20000 in
theorem gX9_value_X9_isSizeByLaw : GoodIn wsX9_value (va_wsS RX9 129 yX9_isSizeByLaw wsX9_isSizeByLaw) := goodIn_app (goodIn_of _ (by decide +kernel)) ggX9_value_X9_isSizeByLaw
set_option maxRecDepth 20000 in
theorem ggX9_value_X5_reckon : GoodIn wsX9_value wsX5_reckon := goodIn_r _ [17, 18, 19, 20, 21, 22, 23, 24, 16, 25, 26, 27, 28, 29, 30, 31, 32, 33, 34, 35, 36, 37, 38, 39, 40, 41, 42, 43, 44, 45, 46, 47, 67, 68, 69, 70, 71] (by decide +kernel) (by decide +kernel)
set_option maxRecDepth 20000 in
theorem gX9_value_X5_reckon : GoodIn wsX9_value (wsV RX9 137 RX5 yX5_reckon wsX5_reckon) := goodIn_app (goodIn_of _ (by decide +kernel)) ggX9_value_X5_reckon
theorem dX9_value_0 : decode cX9_value 0 = .ok (.iload_n 1, 1) := by decide +kernel
theorem dX9_value_1 : decode cX9_value 1 = .ok (.iconst 0, 1) := by decide +kernel
theorem dX9_value_2 : decode cX9_value 2 = .ok (.aload_n 0, 1) := by decide +kernel
theorem dX9_value_3 : decode cX9_value 3 = .ok (.getfield 28, 3) := by decide +kernel
theorem dX9_value_6 : decode cX9_value 6 = .ok (.getfield 128, 3) := by decide +kernel
theorem dX9_value_9 : decode cX9_value 9 = .ok (.iconst 1, 1) := by decide +kernel
theorem dX9_value_10 : decode cX9_value 10 = .ok (.isub, 1) := by decide +kernel
theorem dX9_value_11 : decode cX9_value 11 = .ok (.invokestatic 101, 3) := by decide +kernel
theorem dX9_value_14 : decode cX9_value 14 = .ok (.ifCond .eq 17, 3) := by decide +kernel
theorem dX9_value_17 : decode cX9_value 17 = .ok (.iload_n 2, 1) := by decide +kernel
theorem dX9_value_18 : decode cX9_value 18 = .ok (.invokestatic 129, 3) := by decide +kernel
theorem dX9_value_21 : decode cX9_value 21 = .ok (.ifCond .eq 10, 3) := by decide +kernel
theorem dX9_value_24 : decode cX9_value 24 = .ok (.iload_n 3, 1) := by decide +kernel
theorem dX9_value_25 : decode cX9_value 25 = .ok (.invokestatic 129, 3) := by decide +kernel
theorem dX9_value_28 : decode cX9_value 28 = .ok (.ifCond .ne 11, 3) := by decide +kernel
theorem dX9_value_31 : decode cX9_value 31 = .ok (.new 132, 3) := by decide +kernel
theorem dX9_value_34 : decode cX9_value 34 = .ok (.dup, 1) := by decide +kernel
theorem dX9_value_35 : decode cX9_value 35 = .ok (.invokespecial 134, 3) := by decide +kernel
theorem dX9_value_38 : decode cX9_value 38 = .ok (.athrow, 1) := by decide +kernel
theorem dX9_value_39 : decode cX9_value 39 = .ok (.aload_n 0, 1) := by decide +kernel
theorem dX9_value_40 : decode cX9_value 40 = .ok (.getfield 19, 3) := by decide +kernel
theorem dX9_value_43 : decode cX9_value 43 = .ok (.aload_n 0, 1) := by decide +kernel
theorem dX9_value_44 : decode cX9_value 44 = .ok (.getfield 34, 3) := by decide +kernel
theorem dX9_value_47 : decode cX9_value 47 = .ok (.iload_n 1, 1) := by decide +kernel
theorem dX9_value_48 : decode cX9_value 48 = .ok (.aaload, 1) := by decide +kernel
theorem dX9_value_49 : decode cX9_value 49 = .ok (.getfield 135, 3) := by decide +kernel
theorem dX9_value_52 : decode cX9_value 52 = .ok (.iload_n 2, 1) := by decide +kernel
theorem dX9_value_53 : decode cX9_value 53 = .ok (.iload_n 3, 1) := by decide +kernel
theorem dX9_value_54 : decode cX9_value 54 = .ok (.invokevirtual 137, 3) := by decide +kernel
theorem dX9_value_57 : decode cX9_value 57 = .ok (.lreturn, 1) := by decide +kernel
set_option maxRecDepth 20000 in
theorem ggX9_force_X9_isDay : GoodIn wsX9_force wsX9_isDay := goodIn_r _ [5, 6, 7, 4, 8] (by decide +kernel) (by decide +kernel)
set_option maxRecDepth 20000 in
theorem gX9_force_X9_isDay : GoodIn wsX9_force (va_wsS RX9 109 yX9_isDay wsX9_isDay) := goodIn_app (goodIn_of _ (by decide +kernel)) ggX9_force_X9_isDay
set_option maxRecDepth 20000 in
theorem ggX9_force_X9_isKnown : GoodIn wsX9_force wsX9_isKnown := goodIn_r _ [12, 13, 6, 7, 4, 8, 23, 24, 25, 26, 27, 28, 29, 30, 31, 32, 33, 34, 35, 36] (by decide +kernel) (by decide +kernel)
set_option maxRecDepth 20000 in
theorem gX9_force_X9_isKnown : GoodIn wsX9_force (wsV RX9 141 RX9 yX9_isKnown wsX9_isKnown) := goodIn_app (goodIn_of _ (by decide +kernel)) ggX9_force_X9_isKnown
set_option maxRecDepth 20000 in
theorem ggX9_force_X6_inForce : GoodIn wsX9_force wsX6_inForce := goodIn_r _ [18, 19, 20, 21, 22, 37, 38, 39, 40] (by decide +kernel) (by decide +kernel)
set_option maxRecDepth 20000 in
theorem gX9_force_X6_inForce : GoodIn wsX9_force (wsV RX9 144 RX6 yX6_inForce wsX6_inForce) := goodIn_app (goodIn_of _ (by decide +kernel)) ggX9_force_X6_inForce
theorem dX9_force_0 : decode cX9_force 0 = .ok (.iload_n 1, 1) := by decide +kernel
theorem dX9_force_1 : decode cX9_force 1 = .ok (.invokestatic 109, 3) := by decide +kernel
theorem dX9_force_4 : decode cX9_force 4 = .ok (.ifCond .eq 11, 3) := by decide +kernel
theorem dX9_force_7 : decode cX9_force 7 = .ok (.aload_n 0, 1) := by decide +kernel
theorem dX9_force_8 : decode cX9_force 8 = .ok (.iload_n 2, 1) := by decide +kernel
theorem dX9_force_9 : decode cX9_force 9 = .ok (.invokevirtual 141, 3) := by decide +kernel
theorem dX9_force_12 : decode cX9_force 12 = .ok (.ifCond .ne 5, 3) := by decide +kernel
theorem dX9_force_15 : decode cX9_force 15 = .ok (.iconst (-1), 1) := by decide +kernel
theorem dX9_force_16 : decode cX9_force 16 = .ok (.ireturn, 1) := by decide +kernel
theorem dX9_force_17 : decode cX9_force 17 = .ok (.aload_n 0, 1) := by decide +kernel
theorem dX9_force_18 : decode cX9_force 18 = .ok (.getfield 28, 3) := by decide +kernel
theorem dX9_force_21 : decode cX9_force 21 = .ok (.iconst 0, 1) := by decide +kernel
theorem dX9_force_22 : decode cX9_force 22 = .ok (.iload_n 1, 1) := by decide +kernel
theorem dX9_force_23 : decode cX9_force 23 = .ok (.iload_n 2, 1) := by decide +kernel
theorem dX9_force_24 : decode cX9_force 24 = .ok (.invokevirtual 144, 3) := by decide +kernel
theorem dX9_force_27 : decode cX9_force 27 = .ok (.ireturn, 1) := by decide +kernel
set_option maxRecDepth 20000 in
theorem ggX9_most_X9_isSizeByLaw : GoodIn wsX9_most wsX9_isSizeByLaw := goodIn_r _ [7, 8, 9, 6, 10] (by decide +kernel) (by decide +kernel)
set_option maxRecDepth 20000 in
theorem gX9_most_X9_isSizeByLaw : GoodIn wsX9_most (va_wsS RX9 129 yX9_isSizeByLaw wsX9_isSizeByLaw) := goodIn_app (goodIn_of _ (by decide +kernel)) ggX9_most_X9_isSizeByLaw
set_option maxRecDepth 20000 in
theorem ggX9_most_X5_reckon : GoodIn wsX9_most wsX5_reckon := goodIn_r _ [15, 16, 17, 18, 19, 20, 21, 22, 14, 23, 24, 25, 26, 27, 28, 29, 30, 31, 32, 33, 34, 35, 36, 37, 38, 39, 40, 41, 42, 43, 44, 45, 65, 66, 67, 68, 69] (by decide +kernel) (by decide +kernel)
set_option maxRecDepth 20000 in
theorem gX9_most_X5_reckon : GoodIn wsX9_most (wsV RX9 137 RX5 yX5_reckon wsX5_reckon) := goodIn_app (goodIn_of _ (by decide +kernel)) ggX9_most_X5_reckon
theorem dX9_most_0 : decode cX9_most 0 = .ok (.iload_n 1, 1) := by decide +kernel
theorem dX9_most_1 : decode cX9_most 1 = .ok (.invokestatic 129, 3) := by decide +kernel
theorem dX9_most_4 : decode cX9_most 4 = .ok (.ifCond .eq 10, 3) := by decide +kernel
theorem dX9_most_7 : decode cX9_most 7 = .ok (.iload_n 2, 1) := by decide +kernel
theorem dX9_most_8 : decode cX9_most 8 = .ok (.invokestatic 129, 3) := by decide +kernel
theorem dX9_most_11 : decode cX9_most 11 = .ok (.ifCond .ne 5, 3) := by decide +kernel
theorem dX9_most_14 : decode cX9_most 14 = .ok (.iconst (-1), 1) := by decide +kernel
theorem dX9_most_15 : decode cX9_most 15 = .ok (.ireturn, 1) := by decide +kernel
theorem dX9_most_16 : decode cX9_most 16 = .ok (.iconst (-1), 1) := by decide +kernel
theorem dX9_most_17 : decode cX9_most 17 = .ok (.istore_n 3, 1) := by decide +kernel
theorem dX9_most_18 : decode cX9_most 18 = .ok (.lconst 0, 1) := by decide +kernel
theorem dX9_most_19 : decode cX9_most 19 = .ok (.lstore 4, 2) := by decide +kernel
theorem dX9_most_21 : decode cX9_most 21 = .ok (.iconst 0, 1) := by decide +kernel
theorem dX9_most_22 : decode cX9_most 22 = .ok (.istore 6, 2) := by decide +kernel
theorem dX9_most_24 : decode cX9_most 24 = .ok (.iload 6, 2) := by decide +kernel
theorem dX9_most_26 : decode cX9_most 26 = .ok (.aload_n 0, 1) := by decide +kernel
theorem dX9_most_27 : decode cX9_most 27 = .ok (.getfield 28, 3) := by decide +kernel
theorem dX9_most_30 : decode cX9_most 30 = .ok (.getfield 128, 3) := by decide +kernel
theorem dX9_most_33 : decode cX9_most 33 = .ok (.if_icmp .ge 50, 3) := by decide +kernel
theorem dX9_most_36 : decode cX9_most 36 = .ok (.aload_n 0, 1) := by decide +kernel
theorem dX9_most_37 : decode cX9_most 37 = .ok (.getfield 19, 3) := by decide +kernel
theorem dX9_most_40 : decode cX9_most 40 = .ok (.aload_n 0, 1) := by decide +kernel
theorem dX9_most_41 : decode cX9_most 41 = .ok (.getfield 34, 3) := by decide +kernel
theorem dX9_most_44 : decode cX9_most 44 = .ok (.iload 6, 2) := by decide +kernel
theorem dX9_most_46 : decode cX9_most 46 = .ok (.aaload, 1) := by decide +kernel
theorem dX9_most_47 : decode cX9_most 47 = .ok (.getfield 135, 3) := by decide +kernel
theorem dX9_most_50 : decode cX9_most 50 = .ok (.iload_n 1, 1) := by decide +kernel
theorem dX9_most_51 : decode cX9_most 51 = .ok (.iload_n 2, 1) := by decide +kernel
theorem dX9_most_52 : decode cX9_most 52 = .ok (.invokevirtual 137, 3) := by decide +kernel
theorem dX9_most_55 : decode cX9_most 55 = .ok (.lstore 7, 2) := by decide +kernel
theorem dX9_most_57 : decode cX9_most 57 = .ok (.iload_n 3, 1) := by decide +kernel
theorem dX9_most_58 : decode cX9_most 58 = .ok (.iconst (-1), 1) := by decide +kernel
theorem dX9_most_59 : decode cX9_most 59 = .ok (.if_icmp .eq 11, 3) := by decide +kernel
theorem dX9_most_62 : decode cX9_most 62 = .ok (.lload 7, 2) := by decide +kernel
theorem dX9_most_64 : decode cX9_most 64 = .ok (.lload 4, 2) := by decide +kernel
theorem dX9_most_66 : decode cX9_most 66 = .ok (.lcmp, 1) := by decide +kernel
theorem dX9_most_67 : decode cX9_most 67 = .ok (.ifCond .le 10, 3) := by decide +kernel
theorem dX9_most_70 : decode cX9_most 70 = .ok (.iload 6, 2) := by decide +kernel
theorem dX9_most_72 : decode cX9_most 72 = .ok (.istore_n 3, 1) := by decide +kernel
theorem dX9_most_73 : decode cX9_most 73 = .ok (.lload 7, 2) := by decide +kernel
theorem dX9_most_75 : decode cX9_most 75 = .ok (.lstore 4, 2) := by decide +kernel
theorem dX9_most_77 : decode cX9_most 77 = .ok (.iinc 6 1, 3) := by decide +kernel
theorem dX9_most_80 : decode cX9_most 80 = .ok (.goto (-56), 3) := by decide +kernel
theorem dX9_most_83 : decode cX9_most 83 = .ok (.iload_n 3, 1) := by decide +kernel
theorem dX9_most_84 : decode cX9_most 84 = .ok (.ireturn, 1) := by decide +kernel
set_option maxRecDepth 20000 in
theorem ggX9_error_X9_isStick : GoodIn wsX9_error wsX9_isStick := goodIn_r _ [7, 8, 9, 6, 10] (by decide +kernel) (by decide +kernel)
set_option maxRecDepth 20000 in
theorem gX9_error_X9_isStick : GoodIn wsX9_error (va_wsS RX9 147 yX9_isStick wsX9_isStick) := goodIn_app (goodIn_of _ (by decide +kernel)) ggX9_error_X9_isStick
set_option maxRecDepth 20000 in
theorem ggX9_error_X9_within : GoodIn wsX9_error wsX9_within := goodIn_r _ [10] (by decide +kernel) (by decide +kernel)
set_option maxRecDepth 20000 in
theorem gX9_error_X9_within : GoodIn wsX9_error (va_wsS RX9 101 yX9_within wsX9_within) := goodIn_app (goodIn_of _ (by decide +kernel)) ggX9_error_X9_within
set_option maxRecDepth 20000 in
theorem ggX9_error_X9_isDay : GoodIn wsX9_error wsX9_isDay := goodIn_r _ [13, 8, 9, 6, 10] (by decide +kernel) (by decide +kernel)
set_option maxRecDepth 20000 in
theorem gX9_error_X9_isDay : GoodIn wsX9_error (va_wsS RX9 109 yX9_isDay wsX9_isDay) := goodIn_app (goodIn_of _ (by decide +kernel)) ggX9_error_X9_isDay
set_option maxRecDepth 20000 in
theorem ggX9_error_X6_isFull : GoodIn wsX9_error wsX6_isFull := goodIn_r _ [18, 19, 20, 41, 42, 43, 44] (by decide +kernel) (by decide +kernel)
set_option maxRecDepth 20000 in
theorem gX9_error_X6_isFull : GoodIn wsX9_error (wsV RX9 113 RX6 yX6_isFull wsX6_isFull) := goodIn_app (goodIn_of _ (by decide +kernel)) ggX9_error_X6_isFull
set_option maxRecDepth 20000 in
theorem ggX9_error_X6_enter : GoodIn wsX9_error wsX6_enter := goodIn_r _ [24, 20, 19, 25, 26, 41, 42, 43, 44] (by decide +kernel) (by decide +kernel)
set_option maxRecDepth 20000 in
theorem gX9_error_X6_enter : GoodIn wsX9_error (wsV RX9 117 RX6 yX6_enter wsX6_enter) := goodIn_app (goodIn_of _ (by decide +kernel)) ggX9_error_X6_enter
theorem dX9_error_0 : decode cX9_error 0 = .ok (.iload_n 1, 1) := by decide +kernel
theorem dX9_error_1 : decode cX9_error 1 = .ok (.invokestatic 147, 3) := by decide +kernel
theorem dX9_error_4 : decode cX9_error 4 = .ok (.ifCond .eq 33, 3) := by decide +kernel
theorem dX9_error_7 : decode cX9_error 7 = .ok (.iload_n 2, 1) := by decide +kernel
theorem dX9_error_8 : decode cX9_error 8 = .ok (.sipush (-200), 3) := by decide +kernel
theorem dX9_error_11 : decode cX9_error 11 = .ok (.sipush 200, 3) := by decide +kernel
theorem dX9_error_14 : decode cX9_error 14 = .ok (.invokestatic 101, 3) := by decide +kernel
theorem dX9_error_17 : decode cX9_error 17 = .ok (.ifCond .eq 20, 3) := by decide +kernel
theorem dX9_error_20 : decode cX9_error 20 = .ok (.iload_n 3, 1) := by decide +kernel
theorem dX9_error_21 : decode cX9_error 21 = .ok (.invokestatic 109, 3) := by decide +kernel
theorem dX9_error_24 : decode cX9_error 24 = .ok (.ifCond .eq 13, 3) := by decide +kernel
theorem dX9_error_27 : decode cX9_error 27 = .ok (.aload_n 0, 1) := by decide +kernel
theorem dX9_error_28 : decode cX9_error 28 = .ok (.getfield 38, 3) := by decide +kernel
theorem dX9_error_31 : decode cX9_error 31 = .ok (.invokevirtual 113, 3) := by decide +kernel
theorem dX9_error_34 : decode cX9_error 34 = .ok (.ifCond .eq 5, 3) := by decide +kernel
theorem dX9_error_37 : decode cX9_error 37 = .ok (.iconst 0, 1) := by decide +kernel
theorem dX9_error_38 : decode cX9_error 38 = .ok (.ireturn, 1) := by decide +kernel
theorem dX9_error_39 : decode cX9_error 39 = .ok (.aload_n 0, 1) := by decide +kernel
theorem dX9_error_40 : decode cX9_error 40 = .ok (.getfield 38, 3) := by decide +kernel
theorem dX9_error_43 : decode cX9_error 43 = .ok (.iload_n 1, 1) := by decide +kernel
theorem dX9_error_44 : decode cX9_error 44 = .ok (.iload_n 3, 1) := by decide +kernel
theorem dX9_error_45 : decode cX9_error 45 = .ok (.aload_n 0, 1) := by decide +kernel
theorem dX9_error_46 : decode cX9_error 46 = .ok (.getfield 82, 3) := by decide +kernel
theorem dX9_error_49 : decode cX9_error 49 = .ok (.invokevirtual 117, 3) := by decide +kernel
theorem dX9_error_52 : decode cX9_error 52 = .ok (.istore 4, 2) := by decide +kernel
theorem dX9_error_54 : decode cX9_error 54 = .ok (.aload_n 0, 1) := by decide +kernel
theorem dX9_error_55 : decode cX9_error 55 = .ok (.getfield 41, 3) := by decide +kernel
theorem dX9_error_58 : decode cX9_error 58 = .ok (.iload 4, 2) := by decide +kernel
theorem dX9_error_60 : decode cX9_error 60 = .ok (.iload_n 2, 1) := by decide +kernel
theorem dX9_error_61 : decode cX9_error 61 = .ok (.iastore, 1) := by decide +kernel
theorem dX9_error_62 : decode cX9_error 62 = .ok (.iconst 1, 1) := by decide +kernel
theorem dX9_error_63 : decode cX9_error 63 = .ok (.ireturn, 1) := by decide +kernel
set_option maxRecDepth 20000 in
theorem ggX9_log_X9_isOwner : GoodIn wsX9_log wsX9_isOwner := goodIn_r _ [10, 11, 12, 9, 13] (by decide +kernel) (by decide +kernel)
set_option maxRecDepth 20000 in
theorem gX9_log_X9_isOwner : GoodIn wsX9_log (va_wsS RX9 150 yX9_isOwner wsX9_isOwner) := goodIn_app (goodIn_of _ (by decide +kernel)) ggX9_log_X9_isOwner
set_option maxRecDepth 20000 in
theorem ggX9_log_X9_isStick : GoodIn wsX9_log wsX9_isStick := goodIn_r _ [16, 11, 12, 9, 13] (by decide +kernel) (by decide +kernel)
set_option maxRecDepth 20000 in
theorem gX9_log_X9_isStick : GoodIn wsX9_log (va_wsS RX9 147 yX9_isStick wsX9_isStick) := goodIn_app (goodIn_of _ (by decide +kernel)) ggX9_log_X9_isStick
set_option maxRecDepth 20000 in
theorem ggX9_log_X9_within : GoodIn wsX9_log wsX9_within := goodIn_r _ [13] (by decide +kernel) (by decide +kernel)
set_option maxRecDepth 20000 in
theorem gX9_log_X9_within : GoodIn wsX9_log (va_wsS RX9 101 yX9_within wsX9_within) := goodIn_app (goodIn_of _ (by decide +kernel)) ggX9_log_X9_within
set_option maxRecDepth 20000 in
theorem ggX9_log_X3_init : GoodIn wsX9_log wsX3_init := goodIn_r _ [19, 20, 21, 22, 23, 24, 25, 26, 27, 28, 29, 30, 31, 46, 47, 48, 49, 50, 51, 52, 53, 54] (by decide +kernel) (by decide +kernel)
set_option maxRecDepth 20000 in
theorem gX9_log_X3_init : GoodIn wsX9_log (wsX3_init) := ggX9_log_X3_init
theorem dX9_log_0 : decode cX9_log 0 = .ok (.iload_n 1, 1) := by decide +kernel
theorem dX9_log_1 : decode cX9_log 1 = .ok (.invokestatic 150, 3) := by decide +kernel
theorem dX9_log_4 : decode cX9_log 4 = .ok (.ifCond .eq 40, 3) := by decide +kernel
theorem dX9_log_7 : decode cX9_log 7 = .ok (.iload_n 2, 1) := by decide +kernel
theorem dX9_log_8 : decode cX9_log 8 = .ok (.invokestatic 147, 3) := by decide +kernel
theorem dX9_log_11 : decode cX9_log 11 = .ok (.ifCond .eq 33, 3) := by decide +kernel
theorem dX9_log_14 : decode cX9_log 14 = .ok (.iload_n 3, 1) := by decide +kernel
theorem dX9_log_15 : decode cX9_log 15 = .ok (.iconst 1, 1) := by decide +kernel
theorem dX9_log_16 : decode cX9_log 16 = .ok (.bipush 99, 2) := by decide +kernel
theorem dX9_log_18 : decode cX9_log 18 = .ok (.invokestatic 101, 3) := by decide +kernel
theorem dX9_log_21 : decode cX9_log 21 = .ok (.ifCond .eq 23, 3) := by decide +kernel
theorem dX9_log_24 : decode cX9_log 24 = .ok (.iload 4, 2) := by decide +kernel
theorem dX9_log_26 : decode cX9_log 26 = .ok (.iconst 1, 1) := by decide +kernel
theorem dX9_log_27 : decode cX9_log 27 = .ok (.bipush 60, 2) := by decide +kernel
theorem dX9_log_29 : decode cX9_log 29 = .ok (.invokestatic 101, 3) := by decide +kernel
theorem dX9_log_32 : decode cX9_log 32 = .ok (.ifCond .eq 12, 3) := by decide +kernel
theorem dX9_log_35 : decode cX9_log 35 = .ok (.aload_n 0, 1) := by decide +kernel
theorem dX9_log_36 : decode cX9_log 36 = .ok (.getfield 78, 3) := by decide +kernel
theorem dX9_log_39 : decode cX9_log 39 = .ok (.bipush 100, 2) := by decide +kernel
theorem dX9_log_41 : decode cX9_log 41 = .ok (.if_icmp .lt 5, 3) := by decide +kernel
theorem dX9_log_44 : decode cX9_log 44 = .ok (.iconst (-1), 1) := by decide +kernel
theorem dX9_log_45 : decode cX9_log 45 = .ok (.ireturn, 1) := by decide +kernel
theorem dX9_log_46 : decode cX9_log 46 = .ok (.aload_n 0, 1) := by decide +kernel
theorem dX9_log_47 : decode cX9_log 47 = .ok (.getfield 47, 3) := by decide +kernel
theorem dX9_log_50 : decode cX9_log 50 = .ok (.aload_n 0, 1) := by decide +kernel
theorem dX9_log_51 : decode cX9_log 51 = .ok (.getfield 78, 3) := by decide +kernel
theorem dX9_log_54 : decode cX9_log 54 = .ok (.new 45, 3) := by decide +kernel
theorem dX9_log_57 : decode cX9_log 57 = .ok (.dup, 1) := by decide +kernel
theorem dX9_log_58 : decode cX9_log 58 = .ok (.iload_n 1, 1) := by decide +kernel
theorem dX9_log_59 : decode cX9_log 59 = .ok (.iload_n 2, 1) := by decide +kernel
theorem dX9_log_60 : decode cX9_log 60 = .ok (.iload_n 3, 1) := by decide +kernel
theorem dX9_log_61 : decode cX9_log 61 = .ok (.iload 4, 2) := by decide +kernel
theorem dX9_log_63 : decode cX9_log 63 = .ok (.aload_n 0, 1) := by decide +kernel
theorem dX9_log_64 : decode cX9_log 64 = .ok (.getfield 82, 3) := by decide +kernel
theorem dX9_log_67 : decode cX9_log 67 = .ok (.invokespecial 153, 3) := by decide +kernel
theorem dX9_log_70 : decode cX9_log 70 = .ok (.aastore, 1) := by decide +kernel
theorem dX9_log_71 : decode cX9_log 71 = .ok (.aload_n 0, 1) := by decide +kernel
theorem dX9_log_72 : decode cX9_log 72 = .ok (.dup, 1) := by decide +kernel
theorem dX9_log_73 : decode cX9_log 73 = .ok (.getfield 78, 3) := by decide +kernel
theorem dX9_log_76 : decode cX9_log 76 = .ok (.dup_x1, 1) := by decide +kernel
theorem dX9_log_77 : decode cX9_log 77 = .ok (.iconst 1, 1) := by decide +kernel
theorem dX9_log_78 : decode cX9_log 78 = .ok (.iadd, 1) := by decide +kernel
theorem dX9_log_79 : decode cX9_log 79 = .ok (.putfield 78, 3) := by decide +kernel
theorem dX9_log_82 : decode cX9_log 82 = .ok (.ireturn, 1) := by decide +kernel
set_option maxRecDepth 20000 in
theorem ggX9_defects_X9_isLog : GoodIn wsX9_defects wsX9_isLog := goodIn_r _ [6, 7, 8, 9, 5, 10, 11, 12, 13, 14, 15, 16, 17, 18, 19, 20, 21, 22, 23, 24] (by decide +kernel) (by decide +kernel)
set_option maxRecDepth 20000 in
theorem gX9_defects_X9_isLog : GoodIn wsX9_defects (wsV RX9 156 RX9 yX9_isLog wsX9_isLog) := goodIn_app (goodIn_of _ (by decide +kernel)) ggX9_defects_X9_isLog
set_option maxRecDepth 20000 in
theorem ggX9_defects_X9_within : GoodIn wsX9_defects wsX9_within := goodIn_r _ [10] (by decide +kernel) (by decide +kernel)
set_option maxRecDepth 20000 in
theorem gX9_defects_X9_within : GoodIn wsX9_defects (va_wsS RX9 101 yX9_within wsX9_within) := goodIn_app (goodIn_of _ (by decide +kernel)) ggX9_defects_X9_within
theorem dX9_defects_0 : decode cX9_defects 0 = .ok (.aload_n 0, 1) := by decide +kernel
theorem dX9_defects_1 : decode cX9_defects 1 = .ok (.iload_n 1, 1) := by decide +kernel
theorem dX9_defects_2 : decode cX9_defects 2 = .ok (.invokevirtual 156, 3) := by decide +kernel
theorem dX9_defects_5 : decode cX9_defects 5 = .ok (.ifCond .eq 23, 3) := by decide +kernel
theorem dX9_defects_8 : decode cX9_defects 8 = .ok (.iload_n 2, 1) := by decide +kernel
theorem dX9_defects_9 : decode cX9_defects 9 = .ok (.iconst 0, 1) := by decide +kernel
theorem dX9_defects_10 : decode cX9_defects 10 = .ok (.bipush 99, 2) := by decide +kernel
theorem dX9_defects_12 : decode cX9_defects 12 = .ok (.invokestatic 101, 3) := by decide +kernel
theorem dX9_defects_15 : decode cX9_defects 15 = .ok (.ifCond .eq 13, 3) := by decide +kernel
theorem dX9_defects_18 : decode cX9_defects 18 = .ok (.iload_n 3, 1) := by decide +kernel
theorem dX9_defects_19 : decode cX9_defects 19 = .ok (.iconst 0, 1) := by decide +kernel
theorem dX9_defects_20 : decode cX9_defects 20 = .ok (.bipush 90, 2) := by decide +kernel
theorem dX9_defects_22 : decode cX9_defects 22 = .ok (.invokestatic 101, 3) := by decide +kernel
theorem dX9_defects_25 : decode cX9_defects 25 = .ok (.ifCond .ne 5, 3) := by decide +kernel
theorem dX9_defects_28 : decode cX9_defects 28 = .ok (.iconst 0, 1) := by decide +kernel
theorem dX9_defects_29 : decode cX9_defects 29 = .ok (.ireturn, 1) := by decide +kernel
theorem dX9_defects_30 : decode cX9_defects 30 = .ok (.aload_n 0, 1) := by decide +kernel
theorem dX9_defects_31 : decode cX9_defects 31 = .ok (.getfield 47, 3) := by decide +kernel
theorem dX9_defects_34 : decode cX9_defects 34 = .ok (.iload_n 1, 1) := by decide +kernel
theorem dX9_defects_35 : decode cX9_defects 35 = .ok (.aaload, 1) := by decide +kernel
theorem dX9_defects_36 : decode cX9_defects 36 = .ok (.iload_n 2, 1) := by decide +kernel
theorem dX9_defects_37 : decode cX9_defects 37 = .ok (.putfield 159, 3) := by decide +kernel
theorem dX9_defects_40 : decode cX9_defects 40 = .ok (.aload_n 0, 1) := by decide +kernel
theorem dX9_defects_41 : decode cX9_defects 41 = .ok (.getfield 47, 3) := by decide +kernel
theorem dX9_defects_44 : decode cX9_defects 44 = .ok (.iload_n 1, 1) := by decide +kernel
theorem dX9_defects_45 : decode cX9_defects 45 = .ok (.aaload, 1) := by decide +kernel
theorem dX9_defects_46 : decode cX9_defects 46 = .ok (.iload_n 3, 1) := by decide +kernel
theorem dX9_defects_47 : decode cX9_defects 47 = .ok (.putfield 162, 3) := by decide +kernel
theorem dX9_defects_50 : decode cX9_defects 50 = .ok (.iconst 1, 1) := by decide +kernel
theorem dX9_defects_51 : decode cX9_defects 51 = .ok (.ireturn, 1) := by decide +kernel
set_option maxRecDepth 20000 in
theorem ggX9_scale_X9_isLog : GoodIn wsX9_scale wsX9_isLog := goodIn_r _ [6, 7, 8, 9, 5, 10, 84, 85, 86, 87, 88, 89, 90, 91, 92, 93, 94, 95, 96, 97] (by decide +kernel) (by decide +kernel)
set_option maxRecDepth 20000 in
theorem gX9_scale_X9_isLog : GoodIn wsX9_scale (wsV RX9 156 RX9 yX9_isLog wsX9_isLog) := goodIn_app (goodIn_of _ (by decide +kernel)) ggX9_scale_X9_isLog
set_option maxRecDepth 20000 in
theorem ggX9_scale_X9_isKnown : GoodIn wsX9_scale wsX9_isKnown := goodIn_r _ [14, 15, 8, 9, 5, 10, 84, 85, 86, 87, 88, 89, 90, 91, 92, 93, 94, 95, 96, 97] (by decide +kernel) (by decide +kernel)
set_option maxRecDepth 20000 in
theorem gX9_scale_X9_isKnown : GoodIn wsX9_scale (wsV RX9 141 RX9 yX9_isKnown wsX9_isKnown) := goodIn_app (goodIn_of _ (by decide +kernel)) ggX9_scale_X9_isKnown
set_option maxRecDepth 20000 in
theorem ggX9_scale_X9_scaleOf : GoodIn wsX9_scale wsX9_scaleOf := goodIn_r _ [19, 20, 21, 22, 23, 24, 25, 26, 27, 28, 29, 30, 31, 32, 33, 34, 35, 36, 37, 38, 39, 40, 41, 42, 5, 43, 44, 45, 46, 47, 48, 49, 50, 51, 52, 53, 54, 55, 56, 57, 58, 59, 60, 61, 62, 63, 64, 65, 66, 67, 68, 69, 70, 71, 72, 73, 74, 75, 76, 77, 78, 79, 80, 81, 82, 83, 98, 99, 100, 101, 102, 103, 104, 105, 106, 84, 85, 86, 87, 88, 89, 90, 91, 92, 93, 94, 95, 96, 97, 107, 108, 109, 110, 111, 112, 113, 114, 115, 116] (by decide +kernel) (by decide +kernel)
set_option maxRecDepth 20000 in
theorem gX9_scale_X9_scaleOf : GoodIn wsX9_scale (wsV RX9 165 RX9 yX9_scaleOf wsX9_scaleOf) := goodIn_app (goodIn_of _ (by decide +kernel)) ggX9_scale_X9_scaleOf
theorem dX9_scale_0 : decode cX9_scale 0 = .ok (.aload_n 0, 1) := by decide +kernel
theorem dX9_scale_1 : decode cX9_scale 1 = .ok (.iload_n 1, 1) := by decide +kernel
theorem dX9_scale_2 : decode cX9_scale 2 = .ok (.invokevirtual 156, 3) := by decide +kernel
theorem dX9_scale_5 : decode cX9_scale 5 = .ok (.ifCond .eq 11, 3) := by decide +kernel
theorem dX9_scale_8 : decode cX9_scale 8 = .ok (.aload_n 0, 1) := by decide +kernel
theorem dX9_scale_9 : decode cX9_scale 9 = .ok (.iload_n 2, 1) := by decide +kernel
theorem dX9_scale_10 : decode cX9_scale 10 = .ok (.invokevirtual 141, 3) := by decide +kernel
theorem dX9_scale_13 : decode cX9_scale 13 = .ok (.ifCond .ne 5, 3) := by decide +kernel
theorem dX9_scale_16 : decode cX9_scale 16 = .ok (.iconst (-1), 1) := by decide +kernel
theorem dX9_scale_17 : decode cX9_scale 17 = .ok (.ireturn, 1) := by decide +kernel
theorem dX9_scale_18 : decode cX9_scale 18 = .ok (.aload_n 0, 1) := by decide +kernel
theorem dX9_scale_19 : decode cX9_scale 19 = .ok (.aload_n 0, 1) := by decide +kernel
theorem dX9_scale_20 : decode cX9_scale 20 = .ok (.getfield 47, 3) := by decide +kernel
theorem dX9_scale_23 : decode cX9_scale 23 = .ok (.iload_n 1, 1) := by decide +kernel
theorem dX9_scale_24 : decode cX9_scale 24 = .ok (.aaload, 1) := by decide +kernel
theorem dX9_scale_25 : decode cX9_scale 25 = .ok (.iload_n 2, 1) := by decide +kernel
theorem dX9_scale_26 : decode cX9_scale 26 = .ok (.invokevirtual 165, 3) := by decide +kernel
theorem dX9_scale_29 : decode cX9_scale 29 = .ok (.ireturn, 1) := by decide +kernel
set_option maxRecDepth 20000 in
theorem ggX9_sum_X9_isOwner : GoodIn wsX9_sum wsX9_isOwner := goodIn_r _ [6, 7, 8, 5, 9] (by decide +kernel) (by decide +kernel)
set_option maxRecDepth 20000 in
theorem gX9_sum_X9_isOwner : GoodIn wsX9_sum (va_wsS RX9 150 yX9_isOwner wsX9_isOwner) := goodIn_app (goodIn_of _ (by decide +kernel)) ggX9_sum_X9_isOwner
set_option maxRecDepth 20000 in
theorem ggX9_sum_X9_isKnown : GoodIn wsX9_sum wsX9_isKnown := goodIn_r _ [13, 14, 7, 8, 5, 9, 87, 88, 89, 90, 91, 92, 93, 94, 95, 96, 97, 98, 99, 100] (by decide +kernel) (by decide +kernel)
set_option maxRecDepth 20000 in
theorem gX9_sum_X9_isKnown : GoodIn wsX9_sum (wsV RX9 141 RX9 yX9_isKnown wsX9_isKnown) := goodIn_app (goodIn_of _ (by decide +kernel)) ggX9_sum_X9_isKnown
set_option maxRecDepth 20000 in
theorem ggX9_sum_X9_scaleOrNothing : GoodIn wsX9_sum wsX9_scaleOrNothing := goodIn_r _ [18, 19, 20, 21, 5, 22, 23, 24, 25, 26, 27, 28, 29, 30, 31, 32, 33, 34, 35, 36, 37, 38, 39, 40, 41, 42, 43, 44, 45, 46, 47, 48, 49, 50, 51, 52, 53, 54, 55, 56, 57, 58, 59, 60, 61, 62, 63, 64, 65, 66, 67, 68, 69, 70, 71, 72, 73, 74, 75, 76, 77, 78, 79, 80, 81, 82, 83, 84, 85, 86, 101, 102, 103, 104, 105, 106, 107, 108, 109, 87, 88, 89, 90, 91, 92, 93, 94, 95, 96, 97, 98, 99, 100, 110, 111, 112, 113, 114, 115, 116, 117, 118, 119] (by decide +kernel) (by decide +kernel)
set_option maxRecDepth 20000 in
theorem gX9_sum_X9_scaleOrNothing : GoodIn wsX9_sum (wsV RX9 172 RX9 yX9_scaleOrNothing wsX9_scaleOrNothing) := goodIn_app (goodIn_of _ (by decide +kernel)) ggX9_sum_X9_scaleOrNothing
theorem dX9_sum_0 : decode cX9_sum 0 = .ok (.iload_n 1, 1) := by decide +kernel
theorem dX9_sum_1 : decode cX9_sum 1 = .ok (.invokestatic 150, 3) := by decide +kernel
theorem dX9_sum_4 : decode cX9_sum 4 = .ok (.ifCond .eq 11, 3) := by decide +kernel
theorem dX9_sum_7 : decode cX9_sum 7 = .ok (.aload_n 0, 1) := by decide +kernel
theorem dX9_sum_8 : decode cX9_sum 8 = .ok (.iload_n 2, 1) := by decide +kernel
theorem dX9_sum_9 : decode cX9_sum 9 = .ok (.invokevirtual 141, 3) := by decide +kernel
theorem dX9_sum_12 : decode cX9_sum 12 = .ok (.ifCond .ne 5, 3) := by decide +kernel
theorem dX9_sum_15 : decode cX9_sum 15 = .ok (.iconst (-1), 1) := by decide +kernel
theorem dX9_sum_16 : decode cX9_sum 16 = .ok (.ireturn, 1) := by decide +kernel
theorem dX9_sum_17 : decode cX9_sum 17 = .ok (.iconst 0, 1) := by decide +kernel
theorem dX9_sum_18 : decode cX9_sum 18 = .ok (.istore_n 3, 1) := by decide +kernel
theorem dX9_sum_19 : decode cX9_sum 19 = .ok (.iconst 0, 1) := by decide +kernel
theorem dX9_sum_20 : decode cX9_sum 20 = .ok (.istore 4, 2) := by decide +kernel
theorem dX9_sum_22 : decode cX9_sum 22 = .ok (.iload 4, 2) := by decide +kernel
theorem dX9_sum_24 : decode cX9_sum 24 = .ok (.aload_n 0, 1) := by decide +kernel
theorem dX9_sum_25 : decode cX9_sum 25 = .ok (.getfield 78, 3) := by decide +kernel
theorem dX9_sum_28 : decode cX9_sum 28 = .ok (.if_icmp .ge 38, 3) := by decide +kernel
theorem dX9_sum_31 : decode cX9_sum 31 = .ok (.aload_n 0, 1) := by decide +kernel
theorem dX9_sum_32 : decode cX9_sum 32 = .ok (.getfield 47, 3) := by decide +kernel
theorem dX9_sum_35 : decode cX9_sum 35 = .ok (.iload 4, 2) := by decide +kernel
theorem dX9_sum_37 : decode cX9_sum 37 = .ok (.aaload, 1) := by decide +kernel
theorem dX9_sum_38 : decode cX9_sum 38 = .ok (.getfield 169, 3) := by decide +kernel
theorem dX9_sum_41 : decode cX9_sum 41 = .ok (.iload_n 1, 1) := by decide +kernel
theorem dX9_sum_42 : decode cX9_sum 42 = .ok (.if_icmp .ne 18, 3) := by decide +kernel
theorem dX9_sum_45 : decode cX9_sum 45 = .ok (.iload_n 3, 1) := by decide +kernel
theorem dX9_sum_46 : decode cX9_sum 46 = .ok (.aload_n 0, 1) := by decide +kernel
theorem dX9_sum_47 : decode cX9_sum 47 = .ok (.aload_n 0, 1) := by decide +kernel
theorem dX9_sum_48 : decode cX9_sum 48 = .ok (.getfield 47, 3) := by decide +kernel
theorem dX9_sum_51 : decode cX9_sum 51 = .ok (.iload 4, 2) := by decide +kernel
theorem dX9_sum_53 : decode cX9_sum 53 = .ok (.aaload, 1) := by decide +kernel
theorem dX9_sum_54 : decode cX9_sum 54 = .ok (.iload_n 2, 1) := by decide +kernel
theorem dX9_sum_55 : decode cX9_sum 55 = .ok (.invokevirtual 172, 3) := by decide +kernel
theorem dX9_sum_58 : decode cX9_sum 58 = .ok (.iadd, 1) := by decide +kernel
theorem dX9_sum_59 : decode cX9_sum 59 = .ok (.istore_n 3, 1) := by decide +kernel
theorem dX9_sum_60 : decode cX9_sum 60 = .ok (.iinc 4 1, 3) := by decide +kernel
theorem dX9_sum_63 : decode cX9_sum 63 = .ok (.goto (-41), 3) := by decide +kernel
theorem dX9_sum_66 : decode cX9_sum 66 = .ok (.iload_n 3, 1) := by decide +kernel
theorem dX9_sum_67 : decode cX9_sum 67 = .ok (.ireturn, 1) := by decide +kernel
set_option maxRecDepth 20000 in
theorem ggX9_price_X9_isOwner : GoodIn wsX9_price wsX9_isOwner := goodIn_r _ [5, 6, 7, 4, 8] (by decide +kernel) (by decide +kernel)
set_option maxRecDepth 20000 in
theorem gX9_price_X9_isOwner : GoodIn wsX9_price (va_wsS RX9 150 yX9_isOwner wsX9_isOwner) := goodIn_app (goodIn_of _ (by decide +kernel)) ggX9_price_X9_isOwner
set_option maxRecDepth 20000 in
theorem ggX9_price_X9_within : GoodIn wsX9_price wsX9_within := goodIn_r _ [8] (by decide +kernel) (by decide +kernel)
set_option maxRecDepth 20000 in
theorem gX9_price_X9_within : GoodIn wsX9_price (va_wsS RX9 101 yX9_within wsX9_within) := goodIn_app (goodIn_of _ (by decide +kernel)) ggX9_price_X9_within
theorem dX9_price_0 : decode cX9_price 0 = .ok (.iload_n 1, 1) := by decide +kernel
theorem dX9_price_1 : decode cX9_price 1 = .ok (.invokestatic 150, 3) := by decide +kernel
theorem dX9_price_4 : decode cX9_price 4 = .ok (.ifCond .eq 13, 3) := by decide +kernel
theorem dX9_price_7 : decode cX9_price 7 = .ok (.iload_n 2, 1) := by decide +kernel
theorem dX9_price_8 : decode cX9_price 8 = .ok (.iconst 0, 1) := by decide +kernel
theorem dX9_price_9 : decode cX9_price 9 = .ok (.bipush 20, 2) := by decide +kernel
theorem dX9_price_11 : decode cX9_price 11 = .ok (.invokestatic 101, 3) := by decide +kernel
theorem dX9_price_14 : decode cX9_price 14 = .ok (.ifCond .ne 5, 3) := by decide +kernel
theorem dX9_price_17 : decode cX9_price 17 = .ok (.iconst 0, 1) := by decide +kernel
theorem dX9_price_18 : decode cX9_price 18 = .ok (.ireturn, 1) := by decide +kernel
theorem dX9_price_19 : decode cX9_price 19 = .ok (.aload_n 0, 1) := by decide +kernel
theorem dX9_price_20 : decode cX9_price 20 = .ok (.getfield 51, 3) := by decide +kernel
theorem dX9_price_23 : decode cX9_price 23 = .ok (.iload_n 1, 1) := by decide +kernel
theorem dX9_price_24 : decode cX9_price 24 = .ok (.iload_n 2, 1) := by decide +kernel
theorem dX9_price_25 : decode cX9_price 25 = .ok (.iastore, 1) := by decide +kernel
theorem dX9_price_26 : decode cX9_price 26 = .ok (.iconst 1, 1) := by decide +kernel
theorem dX9_price_27 : decode cX9_price 27 = .ok (.ireturn, 1) := by decide +kernel
set_option maxRecDepth 20000 in
theorem ggX9_day_X9_reckonPays : GoodIn wsX9_day wsX9_reckonPays := goodIn_r _ [7, 8, 9, 10, 1, 11, 12, 13, 14, 6, 15, 16, 17, 18, 19, 20, 21, 22, 23, 24, 25, 26, 27, 28, 29, 30, 31, 32, 33, 34, 35, 36, 37, 38, 39, 40, 41, 42, 43, 44, 45, 46, 47, 48, 49, 50, 51, 52, 53, 54, 55, 56, 57, 58, 59, 60, 61, 62, 63, 64, 65, 66, 67, 68, 69, 70, 71, 72, 73, 74, 75, 76, 77, 78, 79, 80, 81, 82, 83, 121, 122, 123, 124, 125, 126, 127, 128, 129, 130, 131, 132, 133, 134, 140, 141, 142, 143, 144, 145, 146, 147, 148, 149, 150, 151, 152, 153, 154, 155, 156, 157, 158] (by decide +kernel) (by decide +kernel)
set_option maxRecDepth 20000 in
theorem gX9_day_X9_reckonPays : GoodIn wsX9_day (wsV RX9 175 RX9 yX9_reckonPays wsX9_reckonPays) := goodIn_app (goodIn_of _ (by decide +kernel)) ggX9_day_X9_reckonPays
set_option maxRecDepth 20000 in
theorem ggX9_day_X9_bookPays : GoodIn wsX9_day wsX9_bookPays := goodIn_r _ [87, 8, 9, 10, 2, 1, 88, 89, 90, 91, 92, 93, 94, 95, 96, 97, 98, 99, 100, 101, 102, 103, 26, 104, 105, 106, 107, 108, 109, 110, 111, 112, 113, 114, 115, 116, 117, 118, 119, 120, 121, 122, 123, 124, 125, 126, 127, 128, 129, 130, 131, 132, 133, 134, 140, 141, 142, 143, 144, 145, 146, 147, 148, 135, 136, 137, 138, 139] (by decide +kernel) (by decide +kernel)
set_option maxRecDepth 20000 in
theorem gX9_day_X9_bookPays : GoodIn wsX9_day (wsV RX9 179 RX9 yX9_bookPays wsX9_bookPays) := goodIn_app (goodIn_of _ (by decide +kernel)) ggX9_day_X9_bookPays
theorem dX9_day_0 : decode cX9_day 0 = .ok (.aload_n 0, 1) := by decide +kernel
theorem dX9_day_1 : decode cX9_day 1 = .ok (.getfield 82, 3) := by decide +kernel
theorem dX9_day_4 : decode cX9_day 4 = .ok (.sipush 500, 3) := by decide +kernel
theorem dX9_day_7 : decode cX9_day 7 = .ok (.if_icmp .lt 5, 3) := by decide +kernel
theorem dX9_day_10 : decode cX9_day 10 = .ok (.iconst (-1), 1) := by decide +kernel
theorem dX9_day_11 : decode cX9_day 11 = .ok (.ireturn, 1) := by decide +kernel
theorem dX9_day_12 : decode cX9_day 12 = .ok (.aload_n 0, 1) := by decide +kernel
theorem dX9_day_13 : decode cX9_day 13 = .ok (.invokevirtual 175, 3) := by decide +kernel
theorem dX9_day_16 : decode cX9_day 16 = .ok (.istore_n 1, 1) := by decide +kernel
theorem dX9_day_17 : decode cX9_day 17 = .ok (.aload_n 0, 1) := by decide +kernel
theorem dX9_day_18 : decode cX9_day 18 = .ok (.getfield 60, 3) := by decide +kernel
theorem dX9_day_21 : decode cX9_day 21 = .ok (.getfield 178, 3) := by decide +kernel
theorem dX9_day_24 : decode cX9_day 24 = .ok (.iload_n 1, 1) := by decide +kernel
theorem dX9_day_25 : decode cX9_day 25 = .ok (.iadd, 1) := by decide +kernel
theorem dX9_day_26 : decode cX9_day 26 = .ok (.sipush 20000, 3) := by decide +kernel
theorem dX9_day_29 : decode cX9_day 29 = .ok (.if_icmp .le 5, 3) := by decide +kernel
theorem dX9_day_32 : decode cX9_day 32 = .ok (.iconst (-1), 1) := by decide +kernel
theorem dX9_day_33 : decode cX9_day 33 = .ok (.ireturn, 1) := by decide +kernel
theorem dX9_day_34 : decode cX9_day 34 = .ok (.aload_n 0, 1) := by decide +kernel
theorem dX9_day_35 : decode cX9_day 35 = .ok (.invokevirtual 179, 3) := by decide +kernel
theorem dX9_day_38 : decode cX9_day 38 = .ok (.aload_n 0, 1) := by decide +kernel
theorem dX9_day_39 : decode cX9_day 39 = .ok (.dup, 1) := by decide +kernel
theorem dX9_day_40 : decode cX9_day 40 = .ok (.getfield 82, 3) := by decide +kernel
theorem dX9_day_43 : decode cX9_day 43 = .ok (.iconst 1, 1) := by decide +kernel
theorem dX9_day_44 : decode cX9_day 44 = .ok (.iadd, 1) := by decide +kernel
theorem dX9_day_45 : decode cX9_day 45 = .ok (.putfield 82, 3) := by decide +kernel
theorem dX9_day_48 : decode cX9_day 48 = .ok (.iload_n 1, 1) := by decide +kernel
theorem dX9_day_49 : decode cX9_day 49 = .ok (.ireturn, 1) := by decide +kernel
set_option maxRecDepth 20000 in
theorem ggX9_line_X9_within : GoodIn wsX9_line wsX9_within := goodIn_r _ [6] (by decide +kernel) (by decide +kernel)
set_option maxRecDepth 20000 in
theorem gX9_line_X9_within : GoodIn wsX9_line (va_wsS RX9 101 yX9_within wsX9_within) := goodIn_app (goodIn_of _ (by decide +kernel)) ggX9_line_X9_within
theorem dX9_line_0 : decode cX9_line 0 = .ok (.iload_n 1, 1) := by decide +kernel
theorem dX9_line_1 : decode cX9_line 1 = .ok (.iconst 0, 1) := by decide +kernel
theorem dX9_line_2 : decode cX9_line 2 = .ok (.aload_n 0, 1) := by decide +kernel
theorem dX9_line_3 : decode cX9_line 3 = .ok (.getfield 60, 3) := by decide +kernel
theorem dX9_line_6 : decode cX9_line 6 = .ok (.getfield 178, 3) := by decide +kernel
theorem dX9_line_9 : decode cX9_line 9 = .ok (.iconst 1, 1) := by decide +kernel
theorem dX9_line_10 : decode cX9_line 10 = .ok (.isub, 1) := by decide +kernel
theorem dX9_line_11 : decode cX9_line 11 = .ok (.invokestatic 101, 3) := by decide +kernel
theorem dX9_line_14 : decode cX9_line 14 = .ok (.ifCond .ne 6, 3) := by decide +kernel
theorem dX9_line_17 : decode cX9_line 17 = .ok (.ldc 182, 2) := by decide +kernel
theorem dX9_line_19 : decode cX9_line 19 = .ok (.ireturn, 1) := by decide +kernel
theorem dX9_line_20 : decode cX9_line 20 = .ok (.iload_n 2, 1) := by decide +kernel
theorem dX9_line_21 : decode cX9_line 21 = .ok (.tableswitch 57 0 2 #[27, 37, 47], 27) := by decide +kernel
theorem dX9_line_48 : decode cX9_line 48 = .ok (.aload_n 0, 1) := by decide +kernel
theorem dX9_line_49 : decode cX9_line 49 = .ok (.getfield 60, 3) := by decide +kernel
theorem dX9_line_52 : decode cX9_line 52 = .ok (.getfield 183, 3) := by decide +kernel
theorem dX9_line_55 : decode cX9_line 55 = .ok (.iload_n 1, 1) := by decide +kernel
theorem dX9_line_56 : decode cX9_line 56 = .ok (.iaload, 1) := by decide +kernel
theorem dX9_line_57 : decode cX9_line 57 = .ok (.ireturn, 1) := by decide +kernel
theorem dX9_line_58 : decode cX9_line 58 = .ok (.aload_n 0, 1) := by decide +kernel
theorem dX9_line_59 : decode cX9_line 59 = .ok (.getfield 60, 3) := by decide +kernel
theorem dX9_line_62 : decode cX9_line 62 = .ok (.getfield 186, 3) := by decide +kernel
theorem dX9_line_65 : decode cX9_line 65 = .ok (.iload_n 1, 1) := by decide +kernel
theorem dX9_line_66 : decode cX9_line 66 = .ok (.iaload, 1) := by decide +kernel
theorem dX9_line_67 : decode cX9_line 67 = .ok (.ireturn, 1) := by decide +kernel
theorem dX9_line_68 : decode cX9_line 68 = .ok (.aload_n 0, 1) := by decide +kernel
theorem dX9_line_69 : decode cX9_line 69 = .ok (.getfield 60, 3) := by decide +kernel
theorem dX9_line_72 : decode cX9_line 72 = .ok (.getfield 188, 3) := by decide +kernel
theorem dX9_line_75 : decode cX9_line 75 = .ok (.iload_n 1, 1) := by decide +kernel
theorem dX9_line_76 : decode cX9_line 76 = .ok (.iaload, 1) := by decide +kernel
theorem dX9_line_77 : decode cX9_line 77 = .ok (.ireturn, 1) := by decide +kernel
theorem dX9_line_78 : decode cX9_line 78 = .ok (.ldc 182, 2) := by decide +kernel
theorem dX9_line_80 : decode cX9_line 80 = .ok (.ireturn, 1) := by decide +kernel
set_option maxRecDepth 20000 in
theorem ggX9_check_X9_isLog : GoodIn wsX9_check wsX9_isLog := goodIn_r _ [6, 7, 8, 9, 5, 10, 11, 12, 13, 14, 15, 16, 17, 18, 19, 20, 21, 22, 23, 24] (by decide +kernel) (by decide +kernel)
set_option maxRecDepth 20000 in
theorem gX9_check_X9_isLog : GoodIn wsX9_check (wsV RX9 156 RX9 yX9_isLog wsX9_isLog) := goodIn_app (goodIn_of _ (by decide +kernel)) ggX9_check_X9_isLog
set_option maxRecDepth 20000 in
theorem ggX9_check_X9_within : GoodIn wsX9_check wsX9_within := goodIn_r _ [10] (by decide +kernel) (by decide +kernel)
set_option maxRecDepth 20000 in
theorem gX9_check_X9_within : GoodIn wsX9_check (va_wsS RX9 101 yX9_within wsX9_within) := goodIn_app (goodIn_of _ (by decide +kernel)) ggX9_check_X9_within
theorem dX9_check_0 : decode cX9_check 0 = .ok (.aload_n 0, 1) := by decide +kernel
theorem dX9_check_1 : decode cX9_check 1 = .ok (.iload_n 1, 1) := by decide +kernel
theorem dX9_check_2 : decode cX9_check 2 = .ok (.invokevirtual 156, 3) := by decide +kernel
theorem dX9_check_5 : decode cX9_check 5 = .ok (.ifCond .eq 13, 3) := by decide +kernel
theorem dX9_check_8 : decode cX9_check 8 = .ok (.iload_n 2, 1) := by decide +kernel
theorem dX9_check_9 : decode cX9_check 9 = .ok (.iconst 1, 1) := by decide +kernel
theorem dX9_check_10 : decode cX9_check 10 = .ok (.bipush 99, 2) := by decide +kernel
theorem dX9_check_12 : decode cX9_check 12 = .ok (.invokestatic 101, 3) := by decide +kernel
theorem dX9_check_15 : decode cX9_check 15 = .ok (.ifCond .ne 5, 3) := by decide +kernel
theorem dX9_check_18 : decode cX9_check 18 = .ok (.iconst 0, 1) := by decide +kernel
theorem dX9_check_19 : decode cX9_check 19 = .ok (.ireturn, 1) := by decide +kernel
theorem dX9_check_20 : decode cX9_check 20 = .ok (.aload_n 0, 1) := by decide +kernel
theorem dX9_check_21 : decode cX9_check 21 = .ok (.getfield 47, 3) := by decide +kernel
theorem dX9_check_24 : decode cX9_check 24 = .ok (.iload_n 1, 1) := by decide +kernel
theorem dX9_check_25 : decode cX9_check 25 = .ok (.aaload, 1) := by decide +kernel
theorem dX9_check_26 : decode cX9_check 26 = .ok (.iload_n 2, 1) := by decide +kernel
theorem dX9_check_27 : decode cX9_check 27 = .ok (.putfield 191, 3) := by decide +kernel
theorem dX9_check_30 : decode cX9_check 30 = .ok (.iconst 1, 1) := by decide +kernel
theorem dX9_check_31 : decode cX9_check 31 = .ok (.ireturn, 1) := by decide +kernel
set_option maxRecDepth 20000 in
theorem ggX9_habit_X9_isStick : GoodIn wsX9_habit wsX9_isStick := goodIn_r _ [7, 8, 9, 6, 10] (by decide +kernel) (by decide +kernel)
set_option maxRecDepth 20000 in
theorem gX9_habit_X9_isStick : GoodIn wsX9_habit (va_wsS RX9 147 yX9_isStick wsX9_isStick) := goodIn_app (goodIn_of _ (by decide +kernel)) ggX9_habit_X9_isStick
set_option maxRecDepth 20000 in
theorem ggX9_habit_X9_within : GoodIn wsX9_habit wsX9_within := goodIn_r _ [10] (by decide +kernel) (by decide +kernel)
set_option maxRecDepth 20000 in
theorem gX9_habit_X9_within : GoodIn wsX9_habit (va_wsS RX9 101 yX9_within wsX9_within) := goodIn_app (goodIn_of _ (by decide +kernel)) ggX9_habit_X9_within
set_option maxRecDepth 20000 in
theorem ggX9_habit_X9_commonDivisor : GoodIn wsX9_habit wsX9_commonDivisor := goodIn_r _ [13] (by decide +kernel) (by decide +kernel)
set_option maxRecDepth 20000 in
theorem gX9_habit_X9_commonDivisor : GoodIn wsX9_habit (va_wsS RX9 202 yX9_commonDivisor wsX9_commonDivisor) := goodIn_app (goodIn_of _ (by decide +kernel)) ggX9_habit_X9_commonDivisor
theorem dX9_habit_0 : decode cX9_habit 0 = .ok (.iload_n 1, 1) := by decide +kernel
theorem dX9_habit_1 : decode cX9_habit 1 = .ok (.invokestatic 147, 3) := by decide +kernel
theorem dX9_habit_4 : decode cX9_habit 4 = .ok (.ifCond .eq 12, 3) := by decide +kernel
theorem dX9_habit_7 : decode cX9_habit 7 = .ok (.iload_n 2, 1) := by decide +kernel
theorem dX9_habit_8 : decode cX9_habit 8 = .ok (.iconst 0, 1) := by decide +kernel
theorem dX9_habit_9 : decode cX9_habit 9 = .ok (.iconst 1, 1) := by decide +kernel
theorem dX9_habit_10 : decode cX9_habit 10 = .ok (.invokestatic 101, 3) := by decide +kernel
theorem dX9_habit_13 : decode cX9_habit 13 = .ok (.ifCond .ne 7, 3) := by decide +kernel
theorem dX9_habit_16 : decode cX9_habit 16 = .ok (.ldc2_w 194, 3) := by decide +kernel
theorem dX9_habit_19 : decode cX9_habit 19 = .ok (.lreturn, 1) := by decide +kernel
theorem dX9_habit_20 : decode cX9_habit 20 = .ok (.lconst 0, 1) := by decide +kernel
theorem dX9_habit_21 : decode cX9_habit 21 = .ok (.lstore_n 3, 1) := by decide +kernel
theorem dX9_habit_22 : decode cX9_habit 22 = .ok (.lconst 0, 1) := by decide +kernel
theorem dX9_habit_23 : decode cX9_habit 23 = .ok (.lstore 5, 2) := by decide +kernel
theorem dX9_habit_25 : decode cX9_habit 25 = .ok (.iconst 0, 1) := by decide +kernel
theorem dX9_habit_26 : decode cX9_habit 26 = .ok (.istore 7, 2) := by decide +kernel
theorem dX9_habit_28 : decode cX9_habit 28 = .ok (.iload 7, 2) := by decide +kernel
theorem dX9_habit_30 : decode cX9_habit 30 = .ok (.aload_n 0, 1) := by decide +kernel
theorem dX9_habit_31 : decode cX9_habit 31 = .ok (.getfield 78, 3) := by decide +kernel
theorem dX9_habit_34 : decode cX9_habit 34 = .ok (.if_icmp .ge 59, 3) := by decide +kernel
theorem dX9_habit_37 : decode cX9_habit 37 = .ok (.aload_n 0, 1) := by decide +kernel
theorem dX9_habit_38 : decode cX9_habit 38 = .ok (.getfield 47, 3) := by decide +kernel
theorem dX9_habit_41 : decode cX9_habit 41 = .ok (.iload 7, 2) := by decide +kernel
theorem dX9_habit_43 : decode cX9_habit 43 = .ok (.aaload, 1) := by decide +kernel
theorem dX9_habit_44 : decode cX9_habit 44 = .ok (.astore 8, 2) := by decide +kernel
theorem dX9_habit_46 : decode cX9_habit 46 = .ok (.aload 8, 2) := by decide +kernel
theorem dX9_habit_48 : decode cX9_habit 48 = .ok (.getfield 196, 3) := by decide +kernel
theorem dX9_habit_51 : decode cX9_habit 51 = .ok (.iload_n 1, 1) := by decide +kernel
theorem dX9_habit_52 : decode cX9_habit 52 = .ok (.if_icmp .ne 35, 3) := by decide +kernel
theorem dX9_habit_55 : decode cX9_habit 55 = .ok (.lload_n 3, 1) := by decide +kernel
theorem dX9_habit_56 : decode cX9_habit 56 = .ok (.aload 8, 2) := by decide +kernel
theorem dX9_habit_58 : decode cX9_habit 58 = .ok (.getfield 199, 3) := by decide +kernel
theorem dX9_habit_61 : decode cX9_habit 61 = .ok (.aload 8, 2) := by decide +kernel
theorem dX9_habit_63 : decode cX9_habit 63 = .ok (.getfield 191, 3) := by decide +kernel
theorem dX9_habit_66 : decode cX9_habit 66 = .ok (.imul, 1) := by decide +kernel
theorem dX9_habit_67 : decode cX9_habit 67 = .ok (.i2l, 1) := by decide +kernel
theorem dX9_habit_68 : decode cX9_habit 68 = .ok (.ladd, 1) := by decide +kernel
theorem dX9_habit_69 : decode cX9_habit 69 = .ok (.lstore_n 3, 1) := by decide +kernel
theorem dX9_habit_70 : decode cX9_habit 70 = .ok (.lload 5, 2) := by decide +kernel
theorem dX9_habit_72 : decode cX9_habit 72 = .ok (.aload 8, 2) := by decide +kernel
theorem dX9_habit_74 : decode cX9_habit 74 = .ok (.getfield 191, 3) := by decide +kernel
theorem dX9_habit_77 : decode cX9_habit 77 = .ok (.aload 8, 2) := by decide +kernel
theorem dX9_habit_79 : decode cX9_habit 79 = .ok (.getfield 191, 3) := by decide +kernel
theorem dX9_habit_82 : decode cX9_habit 82 = .ok (.imul, 1) := by decide +kernel
theorem dX9_habit_83 : decode cX9_habit 83 = .ok (.i2l, 1) := by decide +kernel
theorem dX9_habit_84 : decode cX9_habit 84 = .ok (.ladd, 1) := by decide +kernel
theorem dX9_habit_85 : decode cX9_habit 85 = .ok (.lstore 5, 2) := by decide +kernel
theorem dX9_habit_87 : decode cX9_habit 87 = .ok (.iinc 7 1, 3) := by decide +kernel
theorem dX9_habit_90 : decode cX9_habit 90 = .ok (.goto (-62), 3) := by decide +kernel
theorem dX9_habit_93 : decode cX9_habit 93 = .ok (.lload_n 3, 1) := by decide +kernel
theorem dX9_habit_94 : decode cX9_habit 94 = .ok (.lload 5, 2) := by decide +kernel
theorem dX9_habit_96 : decode cX9_habit 96 = .ok (.invokestatic 202, 3) := by decide +kernel
theorem dX9_habit_99 : decode cX9_habit 99 = .ok (.lstore 7, 2) := by decide +kernel
theorem dX9_habit_101 : decode cX9_habit 101 = .ok (.lload 7, 2) := by decide +kernel
theorem dX9_habit_103 : decode cX9_habit 103 = .ok (.lconst 0, 1) := by decide +kernel
theorem dX9_habit_104 : decode cX9_habit 104 = .ok (.lcmp, 1) := by decide +kernel
theorem dX9_habit_105 : decode cX9_habit 105 = .ok (.ifCond .ne 7, 3) := by decide +kernel
theorem dX9_habit_108 : decode cX9_habit 108 = .ok (.ldc2_w 194, 3) := by decide +kernel
theorem dX9_habit_111 : decode cX9_habit 111 = .ok (.lreturn, 1) := by decide +kernel
theorem dX9_habit_112 : decode cX9_habit 112 = .ok (.iload_n 2, 1) := by decide +kernel
theorem dX9_habit_113 : decode cX9_habit 113 = .ok (.ifCond .ne 7, 3) := by decide +kernel
theorem dX9_habit_116 : decode cX9_habit 116 = .ok (.lload_n 3, 1) := by decide +kernel
theorem dX9_habit_117 : decode cX9_habit 117 = .ok (.goto 5, 3) := by decide +kernel
theorem dX9_habit_120 : decode cX9_habit 120 = .ok (.lload 5, 2) := by decide +kernel
theorem dX9_habit_122 : decode cX9_habit 122 = .ok (.lload 7, 2) := by decide +kernel
theorem dX9_habit_124 : decode cX9_habit 124 = .ok (.ldiv, 1) := by decide +kernel
theorem dX9_habit_125 : decode cX9_habit 125 = .ok (.lreturn, 1) := by decide +kernel
set_option maxRecDepth 20000 in
theorem ggX9_row_X9_within : GoodIn wsX9_row wsX9_within := goodIn_r _ [5] (by decide +kernel) (by decide +kernel)
set_option maxRecDepth 20000 in
theorem gX9_row_X9_within : GoodIn wsX9_row (va_wsS RX9 101 yX9_within wsX9_within) := goodIn_app (goodIn_of _ (by decide +kernel)) ggX9_row_X9_within
set_option maxRecDepth 20000 in
theorem ggX9_row_X4_addRow : GoodIn wsX9_row wsX4_addRow := goodIn_r _ [10, 11, 12, 13, 14, 15, 16, 17, 18, 19, 20, 21, 36, 37, 38, 39, 40, 41, 42, 43, 44, 45, 46, 47, 48, 49] (by decide +kernel) (by decide +kernel)
set_option maxRecDepth 20000 in
theorem gX9_row_X4_addRow : GoodIn wsX9_row (wsV RX9 206 RX4 yX4_addRow wsX4_addRow) := goodIn_app (goodIn_of _ (by decide +kernel)) ggX9_row_X4_addRow
theorem dX9_row_0 : decode cX9_row 0 = .ok (.iload_n 1, 1) := by decide +kernel
theorem dX9_row_1 : decode cX9_row 1 = .ok (.iconst 0, 1) := by decide +kernel
theorem dX9_row_2 : decode cX9_row 2 = .ok (.iconst 1, 1) := by decide +kernel
theorem dX9_row_3 : decode cX9_row 3 = .ok (.invokestatic 101, 3) := by decide +kernel
theorem dX9_row_6 : decode cX9_row 6 = .ok (.ifCond .eq 23, 3) := by decide +kernel
theorem dX9_row_9 : decode cX9_row 9 = .ok (.iload_n 2, 1) := by decide +kernel
theorem dX9_row_10 : decode cX9_row 10 = .ok (.iconst 1, 1) := by decide +kernel
theorem dX9_row_11 : decode cX9_row 11 = .ok (.bipush 99, 2) := by decide +kernel
theorem dX9_row_13 : decode cX9_row 13 = .ok (.invokestatic 101, 3) := by decide +kernel
theorem dX9_row_16 : decode cX9_row 16 = .ok (.ifCond .eq 13, 3) := by decide +kernel
theorem dX9_row_19 : decode cX9_row 19 = .ok (.iload_n 3, 1) := by decide +kernel
theorem dX9_row_20 : decode cX9_row 20 = .ok (.iconst 1, 1) := by decide +kernel
theorem dX9_row_21 : decode cX9_row 21 = .ok (.bipush 60, 2) := by decide +kernel
theorem dX9_row_23 : decode cX9_row 23 = .ok (.invokestatic 101, 3) := by decide +kernel
theorem dX9_row_26 : decode cX9_row 26 = .ok (.ifCond .ne 5, 3) := by decide +kernel
theorem dX9_row_29 : decode cX9_row 29 = .ok (.iconst (-1), 1) := by decide +kernel
theorem dX9_row_30 : decode cX9_row 30 = .ok (.ireturn, 1) := by decide +kernel
theorem dX9_row_31 : decode cX9_row 31 = .ok (.aload_n 0, 1) := by decide +kernel
theorem dX9_row_32 : decode cX9_row 32 = .ok (.getfield 67, 3) := by decide +kernel
theorem dX9_row_35 : decode cX9_row 35 = .ok (.iload_n 1, 1) := by decide +kernel
theorem dX9_row_36 : decode cX9_row 36 = .ok (.iload_n 2, 1) := by decide +kernel
theorem dX9_row_37 : decode cX9_row 37 = .ok (.iload_n 3, 1) := by decide +kernel
theorem dX9_row_38 : decode cX9_row 38 = .ok (.invokevirtual 206, 3) := by decide +kernel
theorem dX9_row_41 : decode cX9_row 41 = .ok (.ireturn, 1) := by decide +kernel
set_option maxRecDepth 20000 in
theorem ggX9_clear_X4_removeRows : GoodIn wsX9_clear wsX4_removeRows := goodIn_r _ [6, 7, 8, 9, 24, 25, 26, 27, 28, 29, 30, 31, 32, 33, 34, 35, 36, 37] (by decide +kernel) (by decide +kernel)
set_option maxRecDepth 20000 in
theorem gX9_clear_X4_removeRows : GoodIn wsX9_clear (wsV RX9 209 RX4 yX4_removeRows wsX4_removeRows) := goodIn_app (goodIn_of _ (by decide +kernel)) ggX9_clear_X4_removeRows
theorem dX9_clear_0 : decode cX9_clear 0 = .ok (.aload_n 0, 1) := by decide +kernel
theorem dX9_clear_1 : decode cX9_clear 1 = .ok (.getfield 67, 3) := by decide +kernel
theorem dX9_clear_4 : decode cX9_clear 4 = .ok (.invokevirtual 209, 3) := by decide +kernel
theorem dX9_clear_7 : decode cX9_clear 7 = .ok (.return_, 1) := by decide +kernel
set_option maxRecDepth 20000 in
theorem ggX9_allow_X9_within : GoodIn wsX9_allow wsX9_within := goodIn_r _ [5] (by decide +kernel) (by decide +kernel)
set_option maxRecDepth 20000 in
theorem gX9_allow_X9_within : GoodIn wsX9_allow (va_wsS RX9 101 yX9_within wsX9_within) := goodIn_app (goodIn_of _ (by decide +kernel)) ggX9_allow_X9_within
set_option maxRecDepth 20000 in
theorem ggX9_allow_X4_setApart : GoodIn wsX9_allow wsX4_setApart := goodIn_r _ [10, 11, 12, 13, 28, 29, 30, 31, 32, 33, 34, 35, 36, 37, 38] (by decide +kernel) (by decide +kernel)
set_option maxRecDepth 20000 in
theorem gX9_allow_X4_setApart : GoodIn wsX9_allow (wsV RX9 212 RX4 yX4_setApart wsX4_setApart) := goodIn_app (goodIn_of _ (by decide +kernel)) ggX9_allow_X4_setApart
theorem dX9_allow_0 : decode cX9_allow 0 = .ok (.iload_n 1, 1) := by decide +kernel
theorem dX9_allow_1 : decode cX9_allow 1 = .ok (.iconst 0, 1) := by decide +kernel
theorem dX9_allow_2 : decode cX9_allow 2 = .ok (.bipush 20, 2) := by decide +kernel
theorem dX9_allow_4 : decode cX9_allow 4 = .ok (.invokestatic 101, 3) := by decide +kernel
theorem dX9_allow_7 : decode cX9_allow 7 = .ok (.ifCond .eq 13, 3) := by decide +kernel
theorem dX9_allow_10 : decode cX9_allow 10 = .ok (.iload_n 2, 1) := by decide +kernel
theorem dX9_allow_11 : decode cX9_allow 11 = .ok (.iconst 0, 1) := by decide +kernel
theorem dX9_allow_12 : decode cX9_allow 12 = .ok (.bipush 20, 2) := by decide +kernel
theorem dX9_allow_14 : decode cX9_allow 14 = .ok (.invokestatic 101, 3) := by decide +kernel
theorem dX9_allow_17 : decode cX9_allow 17 = .ok (.ifCond .ne 5, 3) := by decide +kernel
theorem dX9_allow_20 : decode cX9_allow 20 = .ok (.iconst 0, 1) := by decide +kernel
theorem dX9_allow_21 : decode cX9_allow 21 = .ok (.ireturn, 1) := by decide +kernel
theorem dX9_allow_22 : decode cX9_allow 22 = .ok (.aload_n 0, 1) := by decide +kernel
theorem dX9_allow_23 : decode cX9_allow 23 = .ok (.getfield 67, 3) := by decide +kernel
theorem dX9_allow_26 : decode cX9_allow 26 = .ok (.iload_n 1, 1) := by decide +kernel
theorem dX9_allow_27 : decode cX9_allow 27 = .ok (.iload_n 2, 1) := by decide +kernel
theorem dX9_allow_28 : decode cX9_allow 28 = .ok (.invokevirtual 212, 3) := by decide +kernel
theorem dX9_allow_31 : decode cX9_allow 31 = .ok (.iconst 1, 1) := by decide +kernel
theorem dX9_allow_32 : decode cX9_allow 32 = .ok (.ireturn, 1) := by decide +kernel
set_option maxRecDepth 20000 in
theorem ggX9_pairs_X4_settle : GoodIn wsX9_pairs wsX4_settle := goodIn_r _ [6, 7, 8, 9, 10, 11, 5, 12, 13, 14, 15, 16, 17, 18, 19, 20, 21, 22, 23, 24, 25, 26, 27, 28, 29, 30, 31, 32, 33, 34, 35, 36, 37, 38, 39, 40, 41, 42, 43, 44, 45, 46, 47, 48, 49, 50, 51, 52, 53, 54, 55, 56, 57, 72, 73, 74, 75, 76, 77, 78, 79, 80, 81, 82, 83, 84, 85] (by decide +kernel) (by decide +kernel)
set_option maxRecDepth 20000 in
theorem gX9_pairs_X4_settle : GoodIn wsX9_pairs (wsV RX9 216 RX4 yX4_settle wsX4_settle) := goodIn_app (goodIn_of _ (by decide +kernel)) ggX9_pairs_X4_settle
theorem dX9_pairs_0 : decode cX9_pairs 0 = .ok (.aload_n 0, 1) := by decide +kernel
theorem dX9_pairs_1 : decode cX9_pairs 1 = .ok (.getfield 67, 3) := by decide +kernel
theorem dX9_pairs_4 : decode cX9_pairs 4 = .ok (.invokevirtual 216, 3) := by decide +kernel
theorem dX9_pairs_7 : decode cX9_pairs 7 = .ok (.aload_n 0, 1) := by decide +kernel
theorem dX9_pairs_8 : decode cX9_pairs 8 = .ok (.getfield 67, 3) := by decide +kernel
theorem dX9_pairs_11 : decode cX9_pairs 11 = .ok (.getfield 219, 3) := by decide +kernel
theorem dX9_pairs_14 : decode cX9_pairs 14 = .ok (.ireturn, 1) := by decide +kernel
set_option maxRecDepth 20000 in
theorem ggX9_pair_X9_within : GoodIn wsX9_pair wsX9_within := goodIn_r _ [5] (by decide +kernel) (by decide +kernel)
set_option maxRecDepth 20000 in
theorem gX9_pair_X9_within : GoodIn wsX9_pair (va_wsS RX9 101 yX9_within wsX9_within) := goodIn_app (goodIn_of _ (by decide +kernel)) ggX9_pair_X9_within
set_option maxRecDepth 20000 in
theorem ggX9_pair_X4_settle : GoodIn wsX9_pair wsX4_settle := goodIn_r _ [10, 11, 12, 13, 14, 15, 9, 16, 17, 18, 19, 20, 21, 22, 23, 24, 25, 26, 27, 28, 29, 30, 31, 32, 33, 34, 35, 36, 37, 38, 39, 40, 41, 42, 43, 44, 45, 46, 47, 48, 49, 50, 51, 52, 53, 54, 55, 56, 57, 58, 59, 60, 61, 76, 77, 78, 79, 80, 81, 82, 83, 84, 85, 86, 87, 88, 89] (by decide +kernel) (by decide +kernel)
set_option maxRecDepth 20000 in
theorem gX9_pair_X4_settle : GoodIn wsX9_pair (wsV RX9 216 RX4 yX4_settle wsX4_settle) := goodIn_app (goodIn_of _ (by decide +kernel)) ggX9_pair_X4_settle
theorem dX9_pair_0 : decode cX9_pair 0 = .ok (.iload_n 1, 1) := by decide +kernel
theorem dX9_pair_1 : decode cX9_pair 1 = .ok (.iconst 0, 1) := by decide +kernel
theorem dX9_pair_2 : decode cX9_pair 2 = .ok (.aload_n 0, 1) := by decide +kernel
theorem dX9_pair_3 : decode cX9_pair 3 = .ok (.getfield 67, 3) := by decide +kernel
theorem dX9_pair_6 : decode cX9_pair 6 = .ok (.getfield 222, 3) := by decide +kernel
theorem dX9_pair_9 : decode cX9_pair 9 = .ok (.getfield 226, 3) := by decide +kernel
theorem dX9_pair_12 : decode cX9_pair 12 = .ok (.iconst 1, 1) := by decide +kernel
theorem dX9_pair_13 : decode cX9_pair 13 = .ok (.isub, 1) := by decide +kernel
theorem dX9_pair_14 : decode cX9_pair 14 = .ok (.invokestatic 101, 3) := by decide +kernel
theorem dX9_pair_17 : decode cX9_pair 17 = .ok (.ifCond .ne 5, 3) := by decide +kernel
theorem dX9_pair_20 : decode cX9_pair 20 = .ok (.iconst (-1), 1) := by decide +kernel
theorem dX9_pair_21 : decode cX9_pair 21 = .ok (.ireturn, 1) := by decide +kernel
theorem dX9_pair_22 : decode cX9_pair 22 = .ok (.aload_n 0, 1) := by decide +kernel
theorem dX9_pair_23 : decode cX9_pair 23 = .ok (.getfield 67, 3) := by decide +kernel
theorem dX9_pair_26 : decode cX9_pair 26 = .ok (.invokevirtual 216, 3) := by decide +kernel
theorem dX9_pair_29 : decode cX9_pair 29 = .ok (.aload_n 0, 1) := by decide +kernel
theorem dX9_pair_30 : decode cX9_pair 30 = .ok (.getfield 67, 3) := by decide +kernel
theorem dX9_pair_33 : decode cX9_pair 33 = .ok (.getfield 229, 3) := by decide +kernel
theorem dX9_pair_36 : decode cX9_pair 36 = .ok (.iload_n 1, 1) := by decide +kernel
theorem dX9_pair_37 : decode cX9_pair 37 = .ok (.iaload, 1) := by decide +kernel
theorem dX9_pair_38 : decode cX9_pair 38 = .ok (.ireturn, 1) := by decide +kernel
set_option maxRecDepth 20000 in
theorem ggX9_near_X9_within : GoodIn wsX9_near wsX9_within := goodIn_r _ [5] (by decide +kernel) (by decide +kernel)
set_option maxRecDepth 20000 in
theorem gX9_near_X9_within : GoodIn wsX9_near (va_wsS RX9 101 yX9_within wsX9_within) := goodIn_app (goodIn_of _ (by decide +kernel)) ggX9_near_X9_within
theorem dX9_near_0 : decode cX9_near 0 = .ok (.iload_n 1, 1) := by decide +kernel
theorem dX9_near_1 : decode cX9_near 1 = .ok (.iconst 0, 1) := by decide +kernel
theorem dX9_near_2 : decode cX9_near 2 = .ok (.bipush 100, 2) := by decide +kernel
theorem dX9_near_4 : decode cX9_near 4 = .ok (.invokestatic 101, 3) := by decide +kernel
theorem dX9_near_7 : decode cX9_near 7 = .ok (.ifCond .ne 5, 3) := by decide +kernel
theorem dX9_near_10 : decode cX9_near 10 = .ok (.iconst 0, 1) := by decide +kernel
theorem dX9_near_11 : decode cX9_near 11 = .ok (.ireturn, 1) := by decide +kernel
theorem dX9_near_12 : decode cX9_near 12 = .ok (.aload_n 0, 1) := by decide +kernel
theorem dX9_near_13 : decode cX9_near 13 = .ok (.getfield 74, 3) := by decide +kernel
theorem dX9_near_16 : decode cX9_near 16 = .ok (.iload_n 1, 1) := by decide +kernel
theorem dX9_near_17 : decode cX9_near 17 = .ok (.putfield 232, 3) := by decide +kernel
theorem dX9_near_20 : decode cX9_near 20 = .ok (.iconst 1, 1) := by decide +kernel
theorem dX9_near_21 : decode cX9_near 21 = .ok (.ireturn, 1) := by decide +kernel
set_option maxRecDepth 20000 in
theorem ggX9_judge_X9_isScale : GoodIn wsX9_judge wsX9_isScale := goodIn_r _ [5, 6, 7, 8, 4, 9] (by decide +kernel) (by decide +kernel)
set_option maxRecDepth 20000 in
theorem gX9_judge_X9_isScale : GoodIn wsX9_judge (va_wsS RX9 235 yX9_isScale wsX9_isScale) := goodIn_app (goodIn_of _ (by decide +kernel)) ggX9_judge_X9_isScale
set_option maxRecDepth 20000 in
theorem ggX9_judge_X0_decide : GoodIn wsX9_judge wsX0_decide := goodIn_r _ [14, 15, 16, 17, 18, 19, 20, 13, 21, 22, 23, 24, 25, 26, 41, 42, 43, 44] (by decide +kernel) (by decide +kernel)
set_option maxRecDepth 20000 in
theorem gX9_judge_X0_decide : GoodIn wsX9_judge (wsV RX9 238 RX0 yX0_decide wsX0_decide) := goodIn_app (goodIn_of _ (by decide +kernel)) ggX9_judge_X0_decide
theorem dX9_judge_0 : decode cX9_judge 0 = .ok (.iload_n 1, 1) := by decide +kernel
theorem dX9_judge_1 : decode cX9_judge 1 = .ok (.invokestatic 235, 3) := by decide +kernel
theorem dX9_judge_4 : decode cX9_judge 4 = .ok (.ifCond .eq 17, 3) := by decide +kernel
theorem dX9_judge_7 : decode cX9_judge 7 = .ok (.iload_n 2, 1) := by decide +kernel
theorem dX9_judge_8 : decode cX9_judge 8 = .ok (.invokestatic 235, 3) := by decide +kernel
theorem dX9_judge_11 : decode cX9_judge 11 = .ok (.ifCond .eq 10, 3) := by decide +kernel
theorem dX9_judge_14 : decode cX9_judge 14 = .ok (.iload_n 3, 1) := by decide +kernel
theorem dX9_judge_15 : decode cX9_judge 15 = .ok (.invokestatic 235, 3) := by decide +kernel
theorem dX9_judge_18 : decode cX9_judge 18 = .ok (.ifCond .ne 5, 3) := by decide +kernel
theorem dX9_judge_21 : decode cX9_judge 21 = .ok (.iconst (-1), 1) := by decide +kernel
theorem dX9_judge_22 : decode cX9_judge 22 = .ok (.ireturn, 1) := by decide +kernel
theorem dX9_judge_23 : decode cX9_judge 23 = .ok (.aload_n 0, 1) := by decide +kernel
theorem dX9_judge_24 : decode cX9_judge 24 = .ok (.getfield 74, 3) := by decide +kernel
theorem dX9_judge_27 : decode cX9_judge 27 = .ok (.iload_n 1, 1) := by decide +kernel
theorem dX9_judge_28 : decode cX9_judge 28 = .ok (.iload_n 2, 1) := by decide +kernel
theorem dX9_judge_29 : decode cX9_judge 29 = .ok (.iload_n 3, 1) := by decide +kernel
theorem dX9_judge_30 : decode cX9_judge 30 = .ok (.invokevirtual 238, 3) := by decide +kernel
theorem dX9_judge_33 : decode cX9_judge 33 = .ok (.ireturn, 1) := by decide +kernel
theorem dX9_count_0 : decode cX9_count 0 = .ok (.iload_n 1, 1) := by decide +kernel
theorem dX9_count_1 : decode cX9_count 1 = .ok (.tableswitch 147 0 10 #[59, 64, 72, 77, 85, 93, 104, 115, 123, 131, 139], 59) := by decide +kernel
theorem dX9_count_60 : decode cX9_count 60 = .ok (.aload_n 0, 1) := by decide +kernel
theorem dX9_count_61 : decode cX9_count 61 = .ok (.getfield 82, 3) := by decide +kernel
theorem dX9_count_64 : decode cX9_count 64 = .ok (.ireturn, 1) := by decide +kernel
theorem dX9_count_65 : decode cX9_count 65 = .ok (.aload_n 0, 1) := by decide +kernel
theorem dX9_count_66 : decode cX9_count 66 = .ok (.getfield 28, 3) := by decide +kernel
theorem dX9_count_69 : decode cX9_count 69 = .ok (.getfield 128, 3) := by decide +kernel
theorem dX9_count_72 : decode cX9_count 72 = .ok (.ireturn, 1) := by decide +kernel
theorem dX9_count_73 : decode cX9_count 73 = .ok (.aload_n 0, 1) := by decide +kernel
theorem dX9_count_74 : decode cX9_count 74 = .ok (.getfield 78, 3) := by decide +kernel
theorem dX9_count_77 : decode cX9_count 77 = .ok (.ireturn, 1) := by decide +kernel
theorem dX9_count_78 : decode cX9_count 78 = .ok (.aload_n 0, 1) := by decide +kernel
theorem dX9_count_79 : decode cX9_count 79 = .ok (.getfield 60, 3) := by decide +kernel
theorem dX9_count_82 : decode cX9_count 82 = .ok (.getfield 178, 3) := by decide +kernel
theorem dX9_count_85 : decode cX9_count 85 = .ok (.ireturn, 1) := by decide +kernel
theorem dX9_count_86 : decode cX9_count 86 = .ok (.aload_n 0, 1) := by decide +kernel
theorem dX9_count_87 : decode cX9_count 87 = .ok (.getfield 60, 3) := by decide +kernel
theorem dX9_count_90 : decode cX9_count 90 = .ok (.getfield 241, 3) := by decide +kernel
theorem dX9_count_93 : decode cX9_count 93 = .ok (.ireturn, 1) := by decide +kernel
theorem dX9_count_94 : decode cX9_count 94 = .ok (.aload_n 0, 1) := by decide +kernel
theorem dX9_count_95 : decode cX9_count 95 = .ok (.getfield 67, 3) := by decide +kernel
theorem dX9_count_98 : decode cX9_count 98 = .ok (.getfield 222, 3) := by decide +kernel
theorem dX9_count_101 : decode cX9_count 101 = .ok (.getfield 226, 3) := by decide +kernel
theorem dX9_count_104 : decode cX9_count 104 = .ok (.ireturn, 1) := by decide +kernel
theorem dX9_count_105 : decode cX9_count 105 = .ok (.aload_n 0, 1) := by decide +kernel
theorem dX9_count_106 : decode cX9_count 106 = .ok (.getfield 67, 3) := by decide +kernel
theorem dX9_count_109 : decode cX9_count 109 = .ok (.getfield 244, 3) := by decide +kernel
theorem dX9_count_112 : decode cX9_count 112 = .ok (.getfield 226, 3) := by decide +kernel
theorem dX9_count_115 : decode cX9_count 115 = .ok (.ireturn, 1) := by decide +kernel
theorem dX9_count_116 : decode cX9_count 116 = .ok (.aload_n 0, 1) := by decide +kernel
theorem dX9_count_117 : decode cX9_count 117 = .ok (.getfield 10, 3) := by decide +kernel
theorem dX9_count_120 : decode cX9_count 120 = .ok (.getfield 95, 3) := by decide +kernel
theorem dX9_count_123 : decode cX9_count 123 = .ok (.ireturn, 1) := by decide +kernel
theorem dX9_count_124 : decode cX9_count 124 = .ok (.aload_n 0, 1) := by decide +kernel
theorem dX9_count_125 : decode cX9_count 125 = .ok (.getfield 74, 3) := by decide +kernel
theorem dX9_count_128 : decode cX9_count 128 = .ok (.getfield 247, 3) := by decide +kernel
theorem dX9_count_131 : decode cX9_count 131 = .ok (.ireturn, 1) := by decide +kernel
theorem dX9_count_132 : decode cX9_count 132 = .ok (.aload_n 0, 1) := by decide +kernel
theorem dX9_count_133 : decode cX9_count 133 = .ok (.getfield 74, 3) := by decide +kernel
theorem dX9_count_136 : decode cX9_count 136 = .ok (.getfield 250, 3) := by decide +kernel
theorem dX9_count_139 : decode cX9_count 139 = .ok (.ireturn, 1) := by decide +kernel
theorem dX9_count_140 : decode cX9_count 140 = .ok (.aload_n 0, 1) := by decide +kernel
theorem dX9_count_141 : decode cX9_count 141 = .ok (.getfield 74, 3) := by decide +kernel
theorem dX9_count_144 : decode cX9_count 144 = .ok (.getfield 253, 3) := by decide +kernel
theorem dX9_count_147 : decode cX9_count 147 = .ok (.ireturn, 1) := by decide +kernel
theorem dX9_count_148 : decode cX9_count 148 = .ok (.iconst (-1), 1) := by decide +kernel
theorem dX9_count_149 : decode cX9_count 149 = .ok (.ireturn, 1) := by decide +kernel
theorem dX9_within_0 : decode cX9_within 0 = .ok (.iload_n 0, 1) := by decide +kernel
theorem dX9_within_1 : decode cX9_within 1 = .ok (.iload_n 1, 1) := by decide +kernel
theorem dX9_within_2 : decode cX9_within 2 = .ok (.if_icmp .lt 12, 3) := by decide +kernel
theorem dX9_within_5 : decode cX9_within 5 = .ok (.iload_n 0, 1) := by decide +kernel
theorem dX9_within_6 : decode cX9_within 6 = .ok (.iload_n 2, 1) := by decide +kernel
theorem dX9_within_7 : decode cX9_within 7 = .ok (.if_icmp .gt 7, 3) := by decide +kernel
theorem dX9_within_10 : decode cX9_within 10 = .ok (.iconst 1, 1) := by decide +kernel
theorem dX9_within_11 : decode cX9_within 11 = .ok (.goto 4, 3) := by decide +kernel
theorem dX9_within_14 : decode cX9_within 14 = .ok (.iconst 0, 1) := by decide +kernel
theorem dX9_within_15 : decode cX9_within 15 = .ok (.ireturn, 1) := by decide +kernel
set_option maxRecDepth 20000 in
theorem ggX9_isDay_X9_within : GoodIn wsX9_isDay wsX9_within := goodIn_r _ [4] (by decide +kernel) (by decide +kernel)
set_option maxRecDepth 20000 in
theorem gX9_isDay_X9_within : GoodIn wsX9_isDay (va_wsS RX9 101 yX9_within wsX9_within) := goodIn_app (goodIn_of _ (by decide +kernel)) ggX9_isDay_X9_within
