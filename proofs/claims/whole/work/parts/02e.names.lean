theorem dX10_force_0 : decode cX10_force 0 = .ok (.aload_n 0, 1) := by decide +kernel
theorem dX10_force_1 : decode cX10_force 1 = .ok (.iconst 0, 1) := by decide +kernel
theorem dX10_force_2 : decode cX10_force 2 = .ok (.putfield 106, 3) := by decide +kernel
theorem dX10_force_5 : decode cX10_force 5 = .ok (.iload_n 1, 1) := by decide +kernel
theorem dX10_force_6 : decode cX10_force 6 = .ok (.invokestatic 195, 3) := by decide +kernel
theorem dX10_force_9 : decode cX10_force 9 = .ok (.ifCond .eq 20, 3) := by decide +kernel
theorem dX10_force_12 : decode cX10_force 12 = .ok (.aload_n 0, 1) := by decide +kernel
theorem dX10_force_13 : decode cX10_force 13 = .ok (.iload_n 2, 1) := by decide +kernel
theorem dX10_force_14 : decode cX10_force 14 = .ok (.invokevirtual 209, 3) := by decide +kernel
theorem dX10_force_17 : decode cX10_force 17 = .ok (.ifCond .eq 12, 3) := by decide +kernel
theorem dX10_force_20 : decode cX10_force 20 = .ok (.aload_n 0, 1) := by decide +kernel
theorem dX10_force_21 : decode cX10_force 21 = .ok (.iload_n 1, 1) := by decide +kernel
theorem dX10_force_22 : decode cX10_force 22 = .ok (.iload_n 2, 1) := by decide +kernel
theorem dX10_force_23 : decode cX10_force 23 = .ok (.invokevirtual 212, 3) := by decide +kernel
theorem dX10_force_26 : decode cX10_force 26 = .ok (.goto 4, 3) := by decide +kernel
theorem dX10_force_29 : decode cX10_force 29 = .ok (.iconst (-1), 1) := by decide +kernel
theorem dX10_force_30 : decode cX10_force 30 = .ok (.ireturn, 1) := by decide +kernel
set_option maxRecDepth 20000 in
theorem ggX10_most_X10_isIn : GoodIn wsX10_most wsX10_isIn := goodIn_r _ [6] (by decide +kernel) (by decide +kernel)
set_option maxRecDepth 20000 in
theorem gX10_most_X10_isIn : GoodIn wsX10_most (va_wsS RX10 191 yX10_isIn wsX10_isIn) := goodIn_app (goodIn_of _ (by decide +kernel)) ggX10_most_X10_isIn
set_option maxRecDepth 20000 in
theorem ggX10_most_X10_lawValue : GoodIn wsX10_most wsX10_lawValue := goodIn_r _ [10, 11, 12, 13, 14, 15, 5, 16, 17, 18, 19, 20, 21, 22, 23, 24, 25, 26, 27, 28, 29, 30, 31, 32, 33, 34, 35, 36, 37, 38, 39, 40, 41, 42, 43, 44, 45, 46, 47, 48, 49, 50, 51, 52, 53, 54, 55, 56, 57, 58, 59, 60, 61, 62, 63, 64, 65, 66, 67, 68, 69, 70, 71, 72, 73, 74, 75, 76, 77, 78, 79, 80, 81, 82, 83, 84, 85, 86, 87, 88, 89, 90, 91, 92, 93, 94, 95, 96, 97, 98, 99, 100, 101, 102, 103, 104, 105, 106, 107, 108, 109, 110, 111, 112, 113, 114, 115, 116] (by decide +kernel) (by decide +kernel)
set_option maxRecDepth 20000 in
theorem gX10_most_X10_lawValue : GoodIn wsX10_most (wsV RX10 205 RX10 yX10_lawValue wsX10_lawValue) := goodIn_app (goodIn_of _ (by decide +kernel)) ggX10_most_X10_lawValue
theorem dX10_most_0 : decode cX10_most 0 = .ok (.aload_n 0, 1) := by decide +kernel
theorem dX10_most_1 : decode cX10_most 1 = .ok (.iconst 0, 1) := by decide +kernel
theorem dX10_most_2 : decode cX10_most 2 = .ok (.putfield 106, 3) := by decide +kernel
theorem dX10_most_5 : decode cX10_most 5 = .ok (.iload_n 1, 1) := by decide +kernel
theorem dX10_most_6 : decode cX10_most 6 = .ok (.iconst 0, 1) := by decide +kernel
theorem dX10_most_7 : decode cX10_most 7 = .ok (.sipush 1000, 3) := by decide +kernel
theorem dX10_most_10 : decode cX10_most 10 = .ok (.invokestatic 191, 3) := by decide +kernel
theorem dX10_most_13 : decode cX10_most 13 = .ok (.ifCond .eq 14, 3) := by decide +kernel
theorem dX10_most_16 : decode cX10_most 16 = .ok (.iload_n 2, 1) := by decide +kernel
theorem dX10_most_17 : decode cX10_most 17 = .ok (.iconst 0, 1) := by decide +kernel
theorem dX10_most_18 : decode cX10_most 18 = .ok (.sipush 1000, 3) := by decide +kernel
theorem dX10_most_21 : decode cX10_most 21 = .ok (.invokestatic 191, 3) := by decide +kernel
theorem dX10_most_24 : decode cX10_most 24 = .ok (.ifCond .ne 5, 3) := by decide +kernel
theorem dX10_most_27 : decode cX10_most 27 = .ok (.iconst (-1), 1) := by decide +kernel
theorem dX10_most_28 : decode cX10_most 28 = .ok (.ireturn, 1) := by decide +kernel
theorem dX10_most_29 : decode cX10_most 29 = .ok (.iconst (-1), 1) := by decide +kernel
theorem dX10_most_30 : decode cX10_most 30 = .ok (.istore_n 3, 1) := by decide +kernel
theorem dX10_most_31 : decode cX10_most 31 = .ok (.iconst 0, 1) := by decide +kernel
theorem dX10_most_32 : decode cX10_most 32 = .ok (.istore 4, 2) := by decide +kernel
theorem dX10_most_34 : decode cX10_most 34 = .ok (.iload 4, 2) := by decide +kernel
theorem dX10_most_36 : decode cX10_most 36 = .ok (.aload_n 0, 1) := by decide +kernel
theorem dX10_most_37 : decode cX10_most 37 = .ok (.getfield 199, 3) := by decide +kernel
theorem dX10_most_40 : decode cX10_most 40 = .ok (.if_icmp .ge 36, 3) := by decide +kernel
theorem dX10_most_43 : decode cX10_most 43 = .ok (.iload_n 3, 1) := by decide +kernel
theorem dX10_most_44 : decode cX10_most 44 = .ok (.iconst (-1), 1) := by decide +kernel
theorem dX10_most_45 : decode cX10_most 45 = .ok (.if_icmp .eq 22, 3) := by decide +kernel
theorem dX10_most_48 : decode cX10_most 48 = .ok (.aload_n 0, 1) := by decide +kernel
theorem dX10_most_49 : decode cX10_most 49 = .ok (.iload 4, 2) := by decide +kernel
theorem dX10_most_51 : decode cX10_most 51 = .ok (.iload_n 1, 1) := by decide +kernel
theorem dX10_most_52 : decode cX10_most 52 = .ok (.iload_n 2, 1) := by decide +kernel
theorem dX10_most_53 : decode cX10_most 53 = .ok (.invokevirtual 205, 3) := by decide +kernel
theorem dX10_most_56 : decode cX10_most 56 = .ok (.aload_n 0, 1) := by decide +kernel
theorem dX10_most_57 : decode cX10_most 57 = .ok (.iload_n 3, 1) := by decide +kernel
theorem dX10_most_58 : decode cX10_most 58 = .ok (.iload_n 1, 1) := by decide +kernel
theorem dX10_most_59 : decode cX10_most 59 = .ok (.iload_n 2, 1) := by decide +kernel
theorem dX10_most_60 : decode cX10_most 60 = .ok (.invokevirtual 205, 3) := by decide +kernel
theorem dX10_most_63 : decode cX10_most 63 = .ok (.lcmp, 1) := by decide +kernel
theorem dX10_most_64 : decode cX10_most 64 = .ok (.ifCond .le 6, 3) := by decide +kernel
theorem dX10_most_67 : decode cX10_most 67 = .ok (.iload 4, 2) := by decide +kernel
theorem dX10_most_69 : decode cX10_most 69 = .ok (.istore_n 3, 1) := by decide +kernel
theorem dX10_most_70 : decode cX10_most 70 = .ok (.iinc 4 1, 3) := by decide +kernel
theorem dX10_most_73 : decode cX10_most 73 = .ok (.goto (-39), 3) := by decide +kernel
theorem dX10_most_76 : decode cX10_most 76 = .ok (.iload_n 3, 1) := by decide +kernel
theorem dX10_most_77 : decode cX10_most 77 = .ok (.ireturn, 1) := by decide +kernel
set_option maxRecDepth 20000 in
theorem ggX10_error_X10_isIn : GoodIn wsX10_error wsX10_isIn := goodIn_r _ [11] (by decide +kernel) (by decide +kernel)
set_option maxRecDepth 20000 in
theorem gX10_error_X10_isIn : GoodIn wsX10_error (va_wsS RX10 191 yX10_isIn wsX10_isIn) := goodIn_app (goodIn_of _ (by decide +kernel)) ggX10_error_X10_isIn
set_option maxRecDepth 20000 in
theorem ggX10_error_X10_isLaterDay : GoodIn wsX10_error wsX10_isLaterDay := goodIn_r _ [14, 8, 9, 10, 11] (by decide +kernel) (by decide +kernel)
set_option maxRecDepth 20000 in
theorem gX10_error_X10_isLaterDay : GoodIn wsX10_error (va_wsS RX10 195 yX10_isLaterDay wsX10_isLaterDay) := goodIn_app (goodIn_of _ (by decide +kernel)) ggX10_error_X10_isLaterDay
theorem dX10_error_0 : decode cX10_error 0 = .ok (.aload_n 0, 1) := by decide +kernel
theorem dX10_error_1 : decode cX10_error 1 = .ok (.iconst 0, 1) := by decide +kernel
theorem dX10_error_2 : decode cX10_error 2 = .ok (.putfield 106, 3) := by decide +kernel
theorem dX10_error_5 : decode cX10_error 5 = .ok (.aload_n 0, 1) := by decide +kernel
theorem dX10_error_6 : decode cX10_error 6 = .ok (.getfield 216, 3) := by decide +kernel
theorem dX10_error_9 : decode cX10_error 9 = .ok (.bipush 60, 2) := by decide +kernel
theorem dX10_error_11 : decode cX10_error 11 = .ok (.if_icmp .eq 32, 3) := by decide +kernel
theorem dX10_error_14 : decode cX10_error 14 = .ok (.iload_n 1, 1) := by decide +kernel
theorem dX10_error_15 : decode cX10_error 15 = .ok (.iconst 0, 1) := by decide +kernel
theorem dX10_error_16 : decode cX10_error 16 = .ok (.iconst 5, 1) := by decide +kernel
theorem dX10_error_17 : decode cX10_error 17 = .ok (.invokestatic 191, 3) := by decide +kernel
theorem dX10_error_20 : decode cX10_error 20 = .ok (.ifCond .eq 23, 3) := by decide +kernel
theorem dX10_error_23 : decode cX10_error 23 = .ok (.iload_n 2, 1) := by decide +kernel
theorem dX10_error_24 : decode cX10_error 24 = .ok (.sipush (-200), 3) := by decide +kernel
theorem dX10_error_27 : decode cX10_error 27 = .ok (.sipush 200, 3) := by decide +kernel
theorem dX10_error_30 : decode cX10_error 30 = .ok (.invokestatic 191, 3) := by decide +kernel
theorem dX10_error_33 : decode cX10_error 33 = .ok (.ifCond .eq 10, 3) := by decide +kernel
theorem dX10_error_36 : decode cX10_error 36 = .ok (.iload_n 3, 1) := by decide +kernel
theorem dX10_error_37 : decode cX10_error 37 = .ok (.invokestatic 195, 3) := by decide +kernel
theorem dX10_error_40 : decode cX10_error 40 = .ok (.ifCond .ne 5, 3) := by decide +kernel
theorem dX10_error_43 : decode cX10_error 43 = .ok (.iconst 0, 1) := by decide +kernel
theorem dX10_error_44 : decode cX10_error 44 = .ok (.ireturn, 1) := by decide +kernel
theorem dX10_error_45 : decode cX10_error 45 = .ok (.aload_n 0, 1) := by decide +kernel
theorem dX10_error_46 : decode cX10_error 46 = .ok (.getfield 26, 3) := by decide +kernel
theorem dX10_error_49 : decode cX10_error 49 = .ok (.aload_n 0, 1) := by decide +kernel
theorem dX10_error_50 : decode cX10_error 50 = .ok (.getfield 216, 3) := by decide +kernel
theorem dX10_error_53 : decode cX10_error 53 = .ok (.iload_n 1, 1) := by decide +kernel
theorem dX10_error_54 : decode cX10_error 54 = .ok (.iastore, 1) := by decide +kernel
theorem dX10_error_55 : decode cX10_error 55 = .ok (.aload_n 0, 1) := by decide +kernel
theorem dX10_error_56 : decode cX10_error 56 = .ok (.getfield 29, 3) := by decide +kernel
theorem dX10_error_59 : decode cX10_error 59 = .ok (.aload_n 0, 1) := by decide +kernel
theorem dX10_error_60 : decode cX10_error 60 = .ok (.getfield 216, 3) := by decide +kernel
theorem dX10_error_63 : decode cX10_error 63 = .ok (.iload_n 2, 1) := by decide +kernel
theorem dX10_error_64 : decode cX10_error 64 = .ok (.iastore, 1) := by decide +kernel
theorem dX10_error_65 : decode cX10_error 65 = .ok (.aload_n 0, 1) := by decide +kernel
theorem dX10_error_66 : decode cX10_error 66 = .ok (.getfield 32, 3) := by decide +kernel
theorem dX10_error_69 : decode cX10_error 69 = .ok (.aload_n 0, 1) := by decide +kernel
theorem dX10_error_70 : decode cX10_error 70 = .ok (.getfield 216, 3) := by decide +kernel
theorem dX10_error_73 : decode cX10_error 73 = .ok (.iload_n 3, 1) := by decide +kernel
theorem dX10_error_74 : decode cX10_error 74 = .ok (.iastore, 1) := by decide +kernel
theorem dX10_error_75 : decode cX10_error 75 = .ok (.aload_n 0, 1) := by decide +kernel
theorem dX10_error_76 : decode cX10_error 76 = .ok (.getfield 35, 3) := by decide +kernel
theorem dX10_error_79 : decode cX10_error 79 = .ok (.aload_n 0, 1) := by decide +kernel
theorem dX10_error_80 : decode cX10_error 80 = .ok (.getfield 216, 3) := by decide +kernel
theorem dX10_error_83 : decode cX10_error 83 = .ok (.aload_n 0, 1) := by decide +kernel
theorem dX10_error_84 : decode cX10_error 84 = .ok (.getfield 202, 3) := by decide +kernel
theorem dX10_error_87 : decode cX10_error 87 = .ok (.iastore, 1) := by decide +kernel
theorem dX10_error_88 : decode cX10_error 88 = .ok (.aload_n 0, 1) := by decide +kernel
theorem dX10_error_89 : decode cX10_error 89 = .ok (.dup, 1) := by decide +kernel
theorem dX10_error_90 : decode cX10_error 90 = .ok (.getfield 216, 3) := by decide +kernel
theorem dX10_error_93 : decode cX10_error 93 = .ok (.iconst 1, 1) := by decide +kernel
theorem dX10_error_94 : decode cX10_error 94 = .ok (.iadd, 1) := by decide +kernel
theorem dX10_error_95 : decode cX10_error 95 = .ok (.putfield 216, 3) := by decide +kernel
theorem dX10_error_98 : decode cX10_error 98 = .ok (.iconst 1, 1) := by decide +kernel
theorem dX10_error_99 : decode cX10_error 99 = .ok (.ireturn, 1) := by decide +kernel
theorem dX10_errorOn_0 : decode cX10_errorOn 0 = .ok (.iconst (-1), 1) := by decide +kernel
theorem dX10_errorOn_1 : decode cX10_errorOn 1 = .ok (.istore 4, 2) := by decide +kernel
theorem dX10_errorOn_3 : decode cX10_errorOn 3 = .ok (.iconst 0, 1) := by decide +kernel
theorem dX10_errorOn_4 : decode cX10_errorOn 4 = .ok (.istore 5, 2) := by decide +kernel
theorem dX10_errorOn_6 : decode cX10_errorOn 6 = .ok (.iconst 0, 1) := by decide +kernel
theorem dX10_errorOn_7 : decode cX10_errorOn 7 = .ok (.istore 6, 2) := by decide +kernel
theorem dX10_errorOn_9 : decode cX10_errorOn 9 = .ok (.iload 6, 2) := by decide +kernel
theorem dX10_errorOn_11 : decode cX10_errorOn 11 = .ok (.aload_n 0, 1) := by decide +kernel
theorem dX10_errorOn_12 : decode cX10_errorOn 12 = .ok (.getfield 216, 3) := by decide +kernel
theorem dX10_errorOn_15 : decode cX10_errorOn 15 = .ok (.if_icmp .ge 75, 3) := by decide +kernel
theorem dX10_errorOn_18 : decode cX10_errorOn 18 = .ok (.aload_n 0, 1) := by decide +kernel
theorem dX10_errorOn_19 : decode cX10_errorOn 19 = .ok (.getfield 26, 3) := by decide +kernel
theorem dX10_errorOn_22 : decode cX10_errorOn 22 = .ok (.iload 6, 2) := by decide +kernel
theorem dX10_errorOn_24 : decode cX10_errorOn 24 = .ok (.iaload, 1) := by decide +kernel
theorem dX10_errorOn_25 : decode cX10_errorOn 25 = .ok (.iload_n 1, 1) := by decide +kernel
theorem dX10_errorOn_26 : decode cX10_errorOn 26 = .ok (.if_icmp .ne 58, 3) := by decide +kernel
theorem dX10_errorOn_29 : decode cX10_errorOn 29 = .ok (.aload_n 0, 1) := by decide +kernel
theorem dX10_errorOn_30 : decode cX10_errorOn 30 = .ok (.getfield 35, 3) := by decide +kernel
theorem dX10_errorOn_33 : decode cX10_errorOn 33 = .ok (.iload 6, 2) := by decide +kernel
theorem dX10_errorOn_35 : decode cX10_errorOn 35 = .ok (.iaload, 1) := by decide +kernel
theorem dX10_errorOn_36 : decode cX10_errorOn 36 = .ok (.iload_n 3, 1) := by decide +kernel
theorem dX10_errorOn_37 : decode cX10_errorOn 37 = .ok (.if_icmp .gt 47, 3) := by decide +kernel
theorem dX10_errorOn_40 : decode cX10_errorOn 40 = .ok (.aload_n 0, 1) := by decide +kernel
theorem dX10_errorOn_41 : decode cX10_errorOn 41 = .ok (.getfield 32, 3) := by decide +kernel
theorem dX10_errorOn_44 : decode cX10_errorOn 44 = .ok (.iload 6, 2) := by decide +kernel
theorem dX10_errorOn_46 : decode cX10_errorOn 46 = .ok (.iaload, 1) := by decide +kernel
theorem dX10_errorOn_47 : decode cX10_errorOn 47 = .ok (.iload_n 2, 1) := by decide +kernel
theorem dX10_errorOn_48 : decode cX10_errorOn 48 = .ok (.if_icmp .gt 36, 3) := by decide +kernel
theorem dX10_errorOn_51 : decode cX10_errorOn 51 = .ok (.aload_n 0, 1) := by decide +kernel
theorem dX10_errorOn_52 : decode cX10_errorOn 52 = .ok (.getfield 32, 3) := by decide +kernel
theorem dX10_errorOn_55 : decode cX10_errorOn 55 = .ok (.iload 6, 2) := by decide +kernel
theorem dX10_errorOn_57 : decode cX10_errorOn 57 = .ok (.iaload, 1) := by decide +kernel
theorem dX10_errorOn_58 : decode cX10_errorOn 58 = .ok (.iload 4, 2) := by decide +kernel
theorem dX10_errorOn_60 : decode cX10_errorOn 60 = .ok (.if_icmp .ge 6, 3) := by decide +kernel
theorem dX10_errorOn_63 : decode cX10_errorOn 63 = .ok (.goto 21, 3) := by decide +kernel
theorem dX10_errorOn_66 : decode cX10_errorOn 66 = .ok (.aload_n 0, 1) := by decide +kernel
theorem dX10_errorOn_67 : decode cX10_errorOn 67 = .ok (.getfield 32, 3) := by decide +kernel
theorem dX10_errorOn_70 : decode cX10_errorOn 70 = .ok (.iload 6, 2) := by decide +kernel
theorem dX10_errorOn_72 : decode cX10_errorOn 72 = .ok (.iaload, 1) := by decide +kernel
theorem dX10_errorOn_73 : decode cX10_errorOn 73 = .ok (.istore 4, 2) := by decide +kernel
theorem dX10_errorOn_75 : decode cX10_errorOn 75 = .ok (.aload_n 0, 1) := by decide +kernel
theorem dX10_errorOn_76 : decode cX10_errorOn 76 = .ok (.getfield 29, 3) := by decide +kernel
theorem dX10_errorOn_79 : decode cX10_errorOn 79 = .ok (.iload 6, 2) := by decide +kernel
theorem dX10_errorOn_81 : decode cX10_errorOn 81 = .ok (.iaload, 1) := by decide +kernel
theorem dX10_errorOn_82 : decode cX10_errorOn 82 = .ok (.istore 5, 2) := by decide +kernel
theorem dX10_errorOn_84 : decode cX10_errorOn 84 = .ok (.iinc 6 1, 3) := by decide +kernel
theorem dX10_errorOn_87 : decode cX10_errorOn 87 = .ok (.goto (-78), 3) := by decide +kernel
theorem dX10_errorOn_90 : decode cX10_errorOn 90 = .ok (.iload 5, 2) := by decide +kernel
theorem dX10_errorOn_92 : decode cX10_errorOn 92 = .ok (.ireturn, 1) := by decide +kernel
set_option maxRecDepth 20000 in
theorem ggX10_log_X10_isIn : GoodIn wsX10_log wsX10_isIn := goodIn_r _ [12] (by decide +kernel) (by decide +kernel)
set_option maxRecDepth 20000 in
theorem gX10_log_X10_isIn : GoodIn wsX10_log (va_wsS RX10 191 yX10_isIn wsX10_isIn) := goodIn_app (goodIn_of _ (by decide +kernel)) ggX10_log_X10_isIn
theorem dX10_log_0 : decode cX10_log 0 = .ok (.aload_n 0, 1) := by decide +kernel
theorem dX10_log_1 : decode cX10_log 1 = .ok (.iconst 0, 1) := by decide +kernel
theorem dX10_log_2 : decode cX10_log 2 = .ok (.putfield 106, 3) := by decide +kernel
theorem dX10_log_5 : decode cX10_log 5 = .ok (.aload_n 0, 1) := by decide +kernel
theorem dX10_log_6 : decode cX10_log 6 = .ok (.getfield 219, 3) := by decide +kernel
theorem dX10_log_9 : decode cX10_log 9 = .ok (.bipush 100, 2) := by decide +kernel
theorem dX10_log_11 : decode cX10_log 11 = .ok (.if_icmp .eq 42, 3) := by decide +kernel
theorem dX10_log_14 : decode cX10_log 14 = .ok (.iload_n 1, 1) := by decide +kernel
theorem dX10_log_15 : decode cX10_log 15 = .ok (.iconst 0, 1) := by decide +kernel
theorem dX10_log_16 : decode cX10_log 16 = .ok (.iconst 5, 1) := by decide +kernel
theorem dX10_log_17 : decode cX10_log 17 = .ok (.invokestatic 191, 3) := by decide +kernel
theorem dX10_log_20 : decode cX10_log 20 = .ok (.ifCond .eq 33, 3) := by decide +kernel
theorem dX10_log_23 : decode cX10_log 23 = .ok (.iload_n 2, 1) := by decide +kernel
theorem dX10_log_24 : decode cX10_log 24 = .ok (.iconst 0, 1) := by decide +kernel
theorem dX10_log_25 : decode cX10_log 25 = .ok (.iconst 5, 1) := by decide +kernel
theorem dX10_log_26 : decode cX10_log 26 = .ok (.invokestatic 191, 3) := by decide +kernel
theorem dX10_log_29 : decode cX10_log 29 = .ok (.ifCond .eq 24, 3) := by decide +kernel
theorem dX10_log_32 : decode cX10_log 32 = .ok (.iload_n 3, 1) := by decide +kernel
theorem dX10_log_33 : decode cX10_log 33 = .ok (.iconst 1, 1) := by decide +kernel
theorem dX10_log_34 : decode cX10_log 34 = .ok (.bipush 99, 2) := by decide +kernel
theorem dX10_log_36 : decode cX10_log 36 = .ok (.invokestatic 191, 3) := by decide +kernel
theorem dX10_log_39 : decode cX10_log 39 = .ok (.ifCond .eq 14, 3) := by decide +kernel
theorem dX10_log_42 : decode cX10_log 42 = .ok (.iload 4, 2) := by decide +kernel
theorem dX10_log_44 : decode cX10_log 44 = .ok (.iconst 1, 1) := by decide +kernel
theorem dX10_log_45 : decode cX10_log 45 = .ok (.bipush 60, 2) := by decide +kernel
theorem dX10_log_47 : decode cX10_log 47 = .ok (.invokestatic 191, 3) := by decide +kernel
theorem dX10_log_50 : decode cX10_log 50 = .ok (.ifCond .ne 5, 3) := by decide +kernel
theorem dX10_log_53 : decode cX10_log 53 = .ok (.iconst (-1), 1) := by decide +kernel
theorem dX10_log_54 : decode cX10_log 54 = .ok (.ireturn, 1) := by decide +kernel
theorem dX10_log_55 : decode cX10_log 55 = .ok (.aload_n 0, 1) := by decide +kernel
theorem dX10_log_56 : decode cX10_log 56 = .ok (.getfield 38, 3) := by decide +kernel
theorem dX10_log_59 : decode cX10_log 59 = .ok (.aload_n 0, 1) := by decide +kernel
theorem dX10_log_60 : decode cX10_log 60 = .ok (.getfield 219, 3) := by decide +kernel
theorem dX10_log_63 : decode cX10_log 63 = .ok (.iload_n 1, 1) := by decide +kernel
theorem dX10_log_64 : decode cX10_log 64 = .ok (.iastore, 1) := by decide +kernel
theorem dX10_log_65 : decode cX10_log 65 = .ok (.aload_n 0, 1) := by decide +kernel
theorem dX10_log_66 : decode cX10_log 66 = .ok (.getfield 41, 3) := by decide +kernel
theorem dX10_log_69 : decode cX10_log 69 = .ok (.aload_n 0, 1) := by decide +kernel
theorem dX10_log_70 : decode cX10_log 70 = .ok (.getfield 219, 3) := by decide +kernel
theorem dX10_log_73 : decode cX10_log 73 = .ok (.iload_n 2, 1) := by decide +kernel
theorem dX10_log_74 : decode cX10_log 74 = .ok (.iastore, 1) := by decide +kernel
theorem dX10_log_75 : decode cX10_log 75 = .ok (.aload_n 0, 1) := by decide +kernel
theorem dX10_log_76 : decode cX10_log 76 = .ok (.getfield 44, 3) := by decide +kernel
theorem dX10_log_79 : decode cX10_log 79 = .ok (.aload_n 0, 1) := by decide +kernel
theorem dX10_log_80 : decode cX10_log 80 = .ok (.getfield 219, 3) := by decide +kernel
theorem dX10_log_83 : decode cX10_log 83 = .ok (.iload_n 3, 1) := by decide +kernel
theorem dX10_log_84 : decode cX10_log 84 = .ok (.iastore, 1) := by decide +kernel
theorem dX10_log_85 : decode cX10_log 85 = .ok (.aload_n 0, 1) := by decide +kernel
theorem dX10_log_86 : decode cX10_log 86 = .ok (.getfield 47, 3) := by decide +kernel
theorem dX10_log_89 : decode cX10_log 89 = .ok (.aload_n 0, 1) := by decide +kernel
theorem dX10_log_90 : decode cX10_log 90 = .ok (.getfield 219, 3) := by decide +kernel
theorem dX10_log_93 : decode cX10_log 93 = .ok (.iload 4, 2) := by decide +kernel
theorem dX10_log_95 : decode cX10_log 95 = .ok (.iastore, 1) := by decide +kernel
theorem dX10_log_96 : decode cX10_log 96 = .ok (.aload_n 0, 1) := by decide +kernel
theorem dX10_log_97 : decode cX10_log 97 = .ok (.getfield 50, 3) := by decide +kernel
theorem dX10_log_100 : decode cX10_log 100 = .ok (.aload_n 0, 1) := by decide +kernel
theorem dX10_log_101 : decode cX10_log 101 = .ok (.getfield 219, 3) := by decide +kernel
theorem dX10_log_104 : decode cX10_log 104 = .ok (.aload_n 0, 1) := by decide +kernel
theorem dX10_log_105 : decode cX10_log 105 = .ok (.getfield 202, 3) := by decide +kernel
theorem dX10_log_108 : decode cX10_log 108 = .ok (.iastore, 1) := by decide +kernel
theorem dX10_log_109 : decode cX10_log 109 = .ok (.aload_n 0, 1) := by decide +kernel
theorem dX10_log_110 : decode cX10_log 110 = .ok (.dup, 1) := by decide +kernel
theorem dX10_log_111 : decode cX10_log 111 = .ok (.getfield 219, 3) := by decide +kernel
theorem dX10_log_114 : decode cX10_log 114 = .ok (.iconst 1, 1) := by decide +kernel
theorem dX10_log_115 : decode cX10_log 115 = .ok (.iadd, 1) := by decide +kernel
theorem dX10_log_116 : decode cX10_log 116 = .ok (.putfield 219, 3) := by decide +kernel
theorem dX10_log_119 : decode cX10_log 119 = .ok (.aload_n 0, 1) := by decide +kernel
theorem dX10_log_120 : decode cX10_log 120 = .ok (.getfield 219, 3) := by decide +kernel
theorem dX10_log_123 : decode cX10_log 123 = .ok (.iconst 1, 1) := by decide +kernel
theorem dX10_log_124 : decode cX10_log 124 = .ok (.isub, 1) := by decide +kernel
theorem dX10_log_125 : decode cX10_log 125 = .ok (.ireturn, 1) := by decide +kernel
theorem dX10_isLog_0 : decode cX10_isLog 0 = .ok (.iload_n 1, 1) := by decide +kernel
theorem dX10_isLog_1 : decode cX10_isLog 1 = .ok (.ifCond .lt 15, 3) := by decide +kernel
theorem dX10_isLog_4 : decode cX10_isLog 4 = .ok (.iload_n 1, 1) := by decide +kernel
theorem dX10_isLog_5 : decode cX10_isLog 5 = .ok (.aload_n 0, 1) := by decide +kernel
theorem dX10_isLog_6 : decode cX10_isLog 6 = .ok (.getfield 219, 3) := by decide +kernel
theorem dX10_isLog_9 : decode cX10_isLog 9 = .ok (.if_icmp .ge 7, 3) := by decide +kernel
theorem dX10_isLog_12 : decode cX10_isLog 12 = .ok (.iconst 1, 1) := by decide +kernel
theorem dX10_isLog_13 : decode cX10_isLog 13 = .ok (.goto 4, 3) := by decide +kernel
theorem dX10_isLog_16 : decode cX10_isLog 16 = .ok (.iconst 0, 1) := by decide +kernel
theorem dX10_isLog_17 : decode cX10_isLog 17 = .ok (.ireturn, 1) := by decide +kernel
set_option maxRecDepth 20000 in
theorem ggX10_defects_X10_isLog : GoodIn wsX10_defects wsX10_isLog := goodIn_r _ [8, 9, 13, 14, 15, 16, 17, 18, 19, 20, 21, 22, 23, 24, 25, 26, 27, 28, 29, 30, 31, 32, 33, 34, 35, 36, 37, 38, 39, 40, 41, 42, 43, 44, 45, 46, 47, 48, 49, 50, 51, 52, 53, 54, 55, 56, 57, 58, 59, 60, 61, 62] (by decide +kernel) (by decide +kernel)
set_option maxRecDepth 20000 in
theorem gX10_defects_X10_isLog : GoodIn wsX10_defects (wsV RX10 222 RX10 yX10_isLog wsX10_isLog) := goodIn_app (goodIn_of _ (by decide +kernel)) ggX10_defects_X10_isLog
set_option maxRecDepth 20000 in
theorem ggX10_defects_X10_isIn : GoodIn wsX10_defects wsX10_isIn := goodIn_r _ [12] (by decide +kernel) (by decide +kernel)
set_option maxRecDepth 20000 in
theorem gX10_defects_X10_isIn : GoodIn wsX10_defects (va_wsS RX10 191 yX10_isIn wsX10_isIn) := goodIn_app (goodIn_of _ (by decide +kernel)) ggX10_defects_X10_isIn
theorem dX10_defects_0 : decode cX10_defects 0 = .ok (.aload_n 0, 1) := by decide +kernel
theorem dX10_defects_1 : decode cX10_defects 1 = .ok (.iconst 0, 1) := by decide +kernel
theorem dX10_defects_2 : decode cX10_defects 2 = .ok (.putfield 106, 3) := by decide +kernel
theorem dX10_defects_5 : decode cX10_defects 5 = .ok (.aload_n 0, 1) := by decide +kernel
theorem dX10_defects_6 : decode cX10_defects 6 = .ok (.iload_n 1, 1) := by decide +kernel
theorem dX10_defects_7 : decode cX10_defects 7 = .ok (.invokevirtual 222, 3) := by decide +kernel
theorem dX10_defects_10 : decode cX10_defects 10 = .ok (.ifCond .eq 23, 3) := by decide +kernel
theorem dX10_defects_13 : decode cX10_defects 13 = .ok (.iload_n 2, 1) := by decide +kernel
theorem dX10_defects_14 : decode cX10_defects 14 = .ok (.iconst 0, 1) := by decide +kernel
theorem dX10_defects_15 : decode cX10_defects 15 = .ok (.bipush 99, 2) := by decide +kernel
theorem dX10_defects_17 : decode cX10_defects 17 = .ok (.invokestatic 191, 3) := by decide +kernel
theorem dX10_defects_20 : decode cX10_defects 20 = .ok (.ifCond .eq 13, 3) := by decide +kernel
theorem dX10_defects_23 : decode cX10_defects 23 = .ok (.iload_n 3, 1) := by decide +kernel
theorem dX10_defects_24 : decode cX10_defects 24 = .ok (.iconst 0, 1) := by decide +kernel
theorem dX10_defects_25 : decode cX10_defects 25 = .ok (.bipush 90, 2) := by decide +kernel
theorem dX10_defects_27 : decode cX10_defects 27 = .ok (.invokestatic 191, 3) := by decide +kernel
theorem dX10_defects_30 : decode cX10_defects 30 = .ok (.ifCond .ne 5, 3) := by decide +kernel
theorem dX10_defects_33 : decode cX10_defects 33 = .ok (.iconst 0, 1) := by decide +kernel
theorem dX10_defects_34 : decode cX10_defects 34 = .ok (.ireturn, 1) := by decide +kernel
theorem dX10_defects_35 : decode cX10_defects 35 = .ok (.aload_n 0, 1) := by decide +kernel
theorem dX10_defects_36 : decode cX10_defects 36 = .ok (.getfield 53, 3) := by decide +kernel
theorem dX10_defects_39 : decode cX10_defects 39 = .ok (.iload_n 1, 1) := by decide +kernel
theorem dX10_defects_40 : decode cX10_defects 40 = .ok (.iload_n 2, 1) := by decide +kernel
theorem dX10_defects_41 : decode cX10_defects 41 = .ok (.iastore, 1) := by decide +kernel
theorem dX10_defects_42 : decode cX10_defects 42 = .ok (.aload_n 0, 1) := by decide +kernel
theorem dX10_defects_43 : decode cX10_defects 43 = .ok (.getfield 56, 3) := by decide +kernel
theorem dX10_defects_46 : decode cX10_defects 46 = .ok (.iload_n 1, 1) := by decide +kernel
theorem dX10_defects_47 : decode cX10_defects 47 = .ok (.iload_n 3, 1) := by decide +kernel
theorem dX10_defects_48 : decode cX10_defects 48 = .ok (.iastore, 1) := by decide +kernel
theorem dX10_defects_49 : decode cX10_defects 49 = .ok (.iconst 1, 1) := by decide +kernel
theorem dX10_defects_50 : decode cX10_defects 50 = .ok (.ireturn, 1) := by decide +kernel
set_option maxRecDepth 20000 in
theorem ggX10_scaleOf_X10_inForce : GoodIn wsX10_scaleOf wsX10_inForce := goodIn_r _ [23, 24, 25, 26, 89, 90, 91, 92, 93, 94, 95, 96, 97, 98, 99, 100, 101, 102, 103, 104, 105, 106, 107, 108, 109, 110, 111, 112, 113, 114, 115, 116, 117, 118, 119, 120, 121, 122, 123, 124, 125, 126, 127, 128, 129, 130, 131, 132, 133, 134, 135, 136, 137, 138] (by decide +kernel) (by decide +kernel)
set_option maxRecDepth 20000 in
theorem gX10_scaleOf_X10_inForce : GoodIn wsX10_scaleOf (wsV RX10 212 RX10 yX10_inForce wsX10_inForce) := goodIn_app (goodIn_of _ (by decide +kernel)) ggX10_scaleOf_X10_inForce
set_option maxRecDepth 20000 in
theorem ggX10_scaleOf_X10_errorOn : GoodIn wsX10_scaleOf wsX10_errorOn := goodIn_r _ [30, 31, 32, 33, 34, 35, 89, 90, 91, 92, 93, 94, 95, 96, 97, 98, 99, 100, 101, 102, 103, 104, 105, 106, 107, 108, 109, 110, 111, 112, 113, 114, 115, 116, 117, 118, 119, 120, 121, 122, 123, 124, 125, 126, 127, 128, 129, 130, 131, 132, 133, 134, 135, 136, 137, 138] (by decide +kernel) (by decide +kernel)
set_option maxRecDepth 20000 in
theorem gX10_scaleOf_X10_errorOn : GoodIn wsX10_scaleOf (wsV RX10 225 RX10 yX10_errorOn wsX10_errorOn) := goodIn_app (goodIn_of _ (by decide +kernel)) ggX10_scaleOf_X10_errorOn
set_option maxRecDepth 20000 in
theorem ggX10_scaleOf_X10_lawValue : GoodIn wsX10_scaleOf wsX10_lawValue := goodIn_r _ [39, 40, 41, 42, 43, 44, 22, 45, 46, 47, 48, 49, 50, 51, 52, 53, 54, 55, 56, 57, 58, 59, 60, 61, 62, 63, 64, 65, 66, 67, 68, 69, 11, 12, 7, 13, 14, 15, 16, 70, 71, 72, 73, 74, 75, 76, 77, 78, 79, 80, 81, 82, 83, 84, 85, 86, 87, 88, 89, 90, 91, 92, 93, 94, 95, 96, 97, 98, 99, 100, 101, 102, 103, 104, 105, 106, 107, 108, 109, 110, 111, 112, 113, 114, 115, 116, 117, 118, 119, 120, 121, 122, 123, 124, 125, 126, 127, 128, 129, 130, 131, 132, 133, 134, 135, 136, 137, 138] (by decide +kernel) (by decide +kernel)
set_option maxRecDepth 20000 in
theorem gX10_scaleOf_X10_lawValue : GoodIn wsX10_scaleOf (wsV RX10 205 RX10 yX10_lawValue wsX10_lawValue) := goodIn_app (goodIn_of _ (by decide +kernel)) ggX10_scaleOf_X10_lawValue
theorem dX10_scaleOf_0 : decode cX10_scaleOf 0 = .ok (.aload_n 0, 1) := by decide +kernel
theorem dX10_scaleOf_1 : decode cX10_scaleOf 1 = .ok (.getfield 50, 3) := by decide +kernel
theorem dX10_scaleOf_4 : decode cX10_scaleOf 4 = .ok (.iload_n 1, 1) := by decide +kernel
theorem dX10_scaleOf_5 : decode cX10_scaleOf 5 = .ok (.iaload, 1) := by decide +kernel
theorem dX10_scaleOf_6 : decode cX10_scaleOf 6 = .ok (.iload_n 2, 1) := by decide +kernel
theorem dX10_scaleOf_7 : decode cX10_scaleOf 7 = .ok (.if_icmp .le 7, 3) := by decide +kernel
theorem dX10_scaleOf_10 : decode cX10_scaleOf 10 = .ok (.iconst (-1), 1) := by decide +kernel
theorem dX10_scaleOf_11 : decode cX10_scaleOf 11 = .ok (.goto 14, 3) := by decide +kernel
theorem dX10_scaleOf_14 : decode cX10_scaleOf 14 = .ok (.aload_n 0, 1) := by decide +kernel
theorem dX10_scaleOf_15 : decode cX10_scaleOf 15 = .ok (.aload_n 0, 1) := by decide +kernel
theorem dX10_scaleOf_16 : decode cX10_scaleOf 16 = .ok (.getfield 50, 3) := by decide +kernel
theorem dX10_scaleOf_19 : decode cX10_scaleOf 19 = .ok (.iload_n 1, 1) := by decide +kernel
theorem dX10_scaleOf_20 : decode cX10_scaleOf 20 = .ok (.iaload, 1) := by decide +kernel
theorem dX10_scaleOf_21 : decode cX10_scaleOf 21 = .ok (.iload_n 2, 1) := by decide +kernel
theorem dX10_scaleOf_22 : decode cX10_scaleOf 22 = .ok (.invokevirtual 212, 3) := by decide +kernel
theorem dX10_scaleOf_25 : decode cX10_scaleOf 25 = .ok (.istore_n 3, 1) := by decide +kernel
theorem dX10_scaleOf_26 : decode cX10_scaleOf 26 = .ok (.iload_n 3, 1) := by decide +kernel
theorem dX10_scaleOf_27 : decode cX10_scaleOf 27 = .ok (.iconst (-1), 1) := by decide +kernel
theorem dX10_scaleOf_28 : decode cX10_scaleOf 28 = .ok (.if_icmp .ne 5, 3) := by decide +kernel
theorem dX10_scaleOf_31 : decode cX10_scaleOf 31 = .ok (.iconst (-1), 1) := by decide +kernel
theorem dX10_scaleOf_32 : decode cX10_scaleOf 32 = .ok (.ireturn, 1) := by decide +kernel
theorem dX10_scaleOf_33 : decode cX10_scaleOf 33 = .ok (.iconst 0, 1) := by decide +kernel
theorem dX10_scaleOf_34 : decode cX10_scaleOf 34 = .ok (.aload_n 0, 1) := by decide +kernel
theorem dX10_scaleOf_35 : decode cX10_scaleOf 35 = .ok (.getfield 44, 3) := by decide +kernel
theorem dX10_scaleOf_38 : decode cX10_scaleOf 38 = .ok (.iload_n 1, 1) := by decide +kernel
theorem dX10_scaleOf_39 : decode cX10_scaleOf 39 = .ok (.iaload, 1) := by decide +kernel
theorem dX10_scaleOf_40 : decode cX10_scaleOf 40 = .ok (.sipush 1000, 3) := by decide +kernel
theorem dX10_scaleOf_43 : decode cX10_scaleOf 43 = .ok (.imul, 1) := by decide +kernel
theorem dX10_scaleOf_44 : decode cX10_scaleOf 44 = .ok (.sipush 1000, 3) := by decide +kernel
theorem dX10_scaleOf_47 : decode cX10_scaleOf 47 = .ok (.aload_n 0, 1) := by decide +kernel
theorem dX10_scaleOf_48 : decode cX10_scaleOf 48 = .ok (.aload_n 0, 1) := by decide +kernel
theorem dX10_scaleOf_49 : decode cX10_scaleOf 49 = .ok (.getfield 41, 3) := by decide +kernel
theorem dX10_scaleOf_52 : decode cX10_scaleOf 52 = .ok (.iload_n 1, 1) := by decide +kernel
theorem dX10_scaleOf_53 : decode cX10_scaleOf 53 = .ok (.iaload, 1) := by decide +kernel
theorem dX10_scaleOf_54 : decode cX10_scaleOf 54 = .ok (.aload_n 0, 1) := by decide +kernel
theorem dX10_scaleOf_55 : decode cX10_scaleOf 55 = .ok (.getfield 50, 3) := by decide +kernel
theorem dX10_scaleOf_58 : decode cX10_scaleOf 58 = .ok (.iload_n 1, 1) := by decide +kernel
theorem dX10_scaleOf_59 : decode cX10_scaleOf 59 = .ok (.iaload, 1) := by decide +kernel
theorem dX10_scaleOf_60 : decode cX10_scaleOf 60 = .ok (.iload_n 2, 1) := by decide +kernel
theorem dX10_scaleOf_61 : decode cX10_scaleOf 61 = .ok (.invokevirtual 225, 3) := by decide +kernel
theorem dX10_scaleOf_64 : decode cX10_scaleOf 64 = .ok (.iadd, 1) := by decide +kernel
theorem dX10_scaleOf_65 : decode cX10_scaleOf 65 = .ok (.idiv, 1) := by decide +kernel
theorem dX10_scaleOf_66 : decode cX10_scaleOf 66 = .ok (.aload_n 0, 1) := by decide +kernel
theorem dX10_scaleOf_67 : decode cX10_scaleOf 67 = .ok (.getfield 53, 3) := by decide +kernel
theorem dX10_scaleOf_70 : decode cX10_scaleOf 70 = .ok (.iload_n 1, 1) := by decide +kernel
theorem dX10_scaleOf_71 : decode cX10_scaleOf 71 = .ok (.iaload, 1) := by decide +kernel
theorem dX10_scaleOf_72 : decode cX10_scaleOf 72 = .ok (.isub, 1) := by decide +kernel
theorem dX10_scaleOf_73 : decode cX10_scaleOf 73 = .ok (.invokestatic 229, 3) := by decide +kernel
theorem dX10_scaleOf_76 : decode cX10_scaleOf 76 = .ok (.istore 4, 2) := by decide +kernel
theorem dX10_scaleOf_78 : decode cX10_scaleOf 78 = .ok (.lconst 0, 1) := by decide +kernel
theorem dX10_scaleOf_79 : decode cX10_scaleOf 79 = .ok (.ldc2_w 231, 3) := by decide +kernel
theorem dX10_scaleOf_82 : decode cX10_scaleOf 82 = .ok (.aload_n 0, 1) := by decide +kernel
theorem dX10_scaleOf_83 : decode cX10_scaleOf 83 = .ok (.iload_n 3, 1) := by decide +kernel
theorem dX10_scaleOf_84 : decode cX10_scaleOf 84 = .ok (.iload 4, 2) := by decide +kernel
theorem dX10_scaleOf_86 : decode cX10_scaleOf 86 = .ok (.aload_n 0, 1) := by decide +kernel
theorem dX10_scaleOf_87 : decode cX10_scaleOf 87 = .ok (.getfield 47, 3) := by decide +kernel
theorem dX10_scaleOf_90 : decode cX10_scaleOf 90 = .ok (.iload_n 1, 1) := by decide +kernel
theorem dX10_scaleOf_91 : decode cX10_scaleOf 91 = .ok (.iaload, 1) := by decide +kernel
theorem dX10_scaleOf_92 : decode cX10_scaleOf 92 = .ok (.invokevirtual 205, 3) := by decide +kernel
theorem dX10_scaleOf_95 : decode cX10_scaleOf 95 = .ok (.invokestatic 136, 3) := by decide +kernel
theorem dX10_scaleOf_98 : decode cX10_scaleOf 98 = .ok (.invokestatic 142, 3) := by decide +kernel
theorem dX10_scaleOf_101 : decode cX10_scaleOf 101 = .ok (.lstore 5, 2) := by decide +kernel
theorem dX10_scaleOf_103 : decode cX10_scaleOf 103 = .ok (.lload 5, 2) := by decide +kernel
theorem dX10_scaleOf_105 : decode cX10_scaleOf 105 = .ok (.bipush 100, 2) := by decide +kernel
theorem dX10_scaleOf_107 : decode cX10_scaleOf 107 = .ok (.aload_n 0, 1) := by decide +kernel
theorem dX10_scaleOf_108 : decode cX10_scaleOf 108 = .ok (.getfield 56, 3) := by decide +kernel
theorem dX10_scaleOf_111 : decode cX10_scaleOf 111 = .ok (.iload_n 1, 1) := by decide +kernel
theorem dX10_scaleOf_112 : decode cX10_scaleOf 112 = .ok (.iaload, 1) := by decide +kernel
theorem dX10_scaleOf_113 : decode cX10_scaleOf 113 = .ok (.isub, 1) := by decide +kernel
theorem dX10_scaleOf_114 : decode cX10_scaleOf 114 = .ok (.i2l, 1) := by decide +kernel
theorem dX10_scaleOf_115 : decode cX10_scaleOf 115 = .ok (.lmul, 1) := by decide +kernel
theorem dX10_scaleOf_116 : decode cX10_scaleOf 116 = .ok (.ldc2_w 233, 3) := by decide +kernel
theorem dX10_scaleOf_119 : decode cX10_scaleOf 119 = .ok (.ldiv, 1) := by decide +kernel
theorem dX10_scaleOf_120 : decode cX10_scaleOf 120 = .ok (.l2i, 1) := by decide +kernel
theorem dX10_scaleOf_121 : decode cX10_scaleOf 121 = .ok (.ireturn, 1) := by decide +kernel
set_option maxRecDepth 20000 in
theorem ggX10_scale_X10_isLog : GoodIn wsX10_scale wsX10_isLog := goodIn_r _ [6, 7, 107, 108, 109, 110, 111, 112, 113, 114, 115, 116, 117, 118, 119, 120, 121, 122, 123, 124, 125, 126, 127, 128, 129, 130, 131, 132, 133, 134, 135, 136, 137, 138, 139, 140, 141, 142, 143, 144, 145, 146, 147, 148, 149, 150, 151, 152, 153, 154, 155, 156] (by decide +kernel) (by decide +kernel)
set_option maxRecDepth 20000 in
theorem gX10_scale_X10_isLog : GoodIn wsX10_scale (wsV RX10 222 RX10 yX10_isLog wsX10_isLog) := goodIn_app (goodIn_of _ (by decide +kernel)) ggX10_scale_X10_isLog
set_option maxRecDepth 20000 in
theorem ggX10_scale_X10_isKnown : GoodIn wsX10_scale wsX10_isKnown := goodIn_r _ [11, 12, 13, 14, 5, 15, 107, 108, 109, 110, 111, 112, 113, 114, 115, 116, 117, 118, 119, 120, 121, 122, 123, 124, 125, 126, 127, 128, 129, 130, 131, 132, 133, 134, 135, 136, 137, 138, 139, 140, 141, 142, 143, 144, 145, 146, 147, 148, 149, 150, 151, 152, 153, 154, 155, 156] (by decide +kernel) (by decide +kernel)
set_option maxRecDepth 20000 in
theorem gX10_scale_X10_isKnown : GoodIn wsX10_scale (wsV RX10 209 RX10 yX10_isKnown wsX10_isKnown) := goodIn_app (goodIn_of _ (by decide +kernel)) ggX10_scale_X10_isKnown
set_option maxRecDepth 20000 in
theorem ggX10_scale_X10_scaleOf : GoodIn wsX10_scale wsX10_scaleOf := goodIn_r _ [19, 20, 21, 22, 23, 24, 25, 26, 27, 28, 29, 30, 31, 32, 33, 34, 35, 36, 37, 38, 39, 40, 5, 41, 42, 43, 44, 45, 46, 47, 48, 49, 50, 51, 52, 53, 54, 55, 56, 57, 58, 59, 60, 61, 62, 63, 64, 65, 66, 67, 68, 69, 70, 71, 72, 73, 74, 75, 76, 77, 78, 79, 80, 81, 82, 83, 84, 85, 86, 87, 88, 89, 90, 91, 92, 93, 94, 95, 96, 97, 98, 99, 100, 101, 102, 103, 104, 105, 106, 107, 108, 109, 110, 111, 112, 113, 114, 115, 116, 117, 118, 119, 120, 121, 122, 123, 124, 125, 126, 127, 128, 129, 130, 131, 132, 133, 134, 135, 136, 137, 138, 139, 140, 141, 142, 143, 144, 145, 146, 147, 148, 149, 150, 151, 152, 153, 154, 155, 156] (by decide +kernel) (by decide +kernel)
set_option maxRecDepth 20000 in
theorem gX10_scale_X10_scaleOf : GoodIn wsX10_scale (wsV RX10 235 RX10 yX10_scaleOf wsX10_scaleOf) := goodIn_app (goodIn_of _ (by decide +kernel)) ggX10_scale_X10_scaleOf
theorem dX10_scale_0 : decode cX10_scale 0 = .ok (.aload_n 0, 1) := by decide +kernel
theorem dX10_scale_1 : decode cX10_scale 1 = .ok (.iconst 0, 1) := by decide +kernel
theorem dX10_scale_2 : decode cX10_scale 2 = .ok (.putfield 106, 3) := by decide +kernel
theorem dX10_scale_5 : decode cX10_scale 5 = .ok (.aload_n 0, 1) := by decide +kernel
theorem dX10_scale_6 : decode cX10_scale 6 = .ok (.iload_n 1, 1) := by decide +kernel
theorem dX10_scale_7 : decode cX10_scale 7 = .ok (.invokevirtual 222, 3) := by decide +kernel
theorem dX10_scale_10 : decode cX10_scale 10 = .ok (.ifCond .eq 20, 3) := by decide +kernel
theorem dX10_scale_13 : decode cX10_scale 13 = .ok (.aload_n 0, 1) := by decide +kernel
theorem dX10_scale_14 : decode cX10_scale 14 = .ok (.iload_n 2, 1) := by decide +kernel
theorem dX10_scale_15 : decode cX10_scale 15 = .ok (.invokevirtual 209, 3) := by decide +kernel
theorem dX10_scale_18 : decode cX10_scale 18 = .ok (.ifCond .eq 12, 3) := by decide +kernel
theorem dX10_scale_21 : decode cX10_scale 21 = .ok (.aload_n 0, 1) := by decide +kernel
theorem dX10_scale_22 : decode cX10_scale 22 = .ok (.iload_n 1, 1) := by decide +kernel
theorem dX10_scale_23 : decode cX10_scale 23 = .ok (.iload_n 2, 1) := by decide +kernel
theorem dX10_scale_24 : decode cX10_scale 24 = .ok (.invokevirtual 235, 3) := by decide +kernel
theorem dX10_scale_27 : decode cX10_scale 27 = .ok (.goto 4, 3) := by decide +kernel
theorem dX10_scale_30 : decode cX10_scale 30 = .ok (.iconst (-1), 1) := by decide +kernel
theorem dX10_scale_31 : decode cX10_scale 31 = .ok (.ireturn, 1) := by decide +kernel
set_option maxRecDepth 20000 in
theorem ggX10_sum_X10_isIn : GoodIn wsX10_sum wsX10_isIn := goodIn_r _ [11] (by decide +kernel) (by decide +kernel)
set_option maxRecDepth 20000 in
theorem gX10_sum_X10_isIn : GoodIn wsX10_sum (va_wsS RX10 191 yX10_isIn wsX10_isIn) := goodIn_app (goodIn_of _ (by decide +kernel)) ggX10_sum_X10_isIn
set_option maxRecDepth 20000 in
theorem ggX10_sum_X10_isKnown : GoodIn wsX10_sum wsX10_isKnown := goodIn_r _ [15, 16, 8, 9, 10, 11, 104, 105, 106, 107, 108, 109, 110, 111, 112, 113, 114, 115, 116, 117, 118, 119, 120, 121, 122, 123, 124, 125, 126, 127, 128, 129, 130, 131, 132, 133, 134, 135, 136, 137, 138, 139, 140, 141, 142, 143, 144, 145, 146, 147, 148, 149, 150, 151, 152, 153] (by decide +kernel) (by decide +kernel)
set_option maxRecDepth 20000 in
theorem gX10_sum_X10_isKnown : GoodIn wsX10_sum (wsV RX10 209 RX10 yX10_isKnown wsX10_isKnown) := goodIn_app (goodIn_of _ (by decide +kernel)) ggX10_sum_X10_isKnown
set_option maxRecDepth 20000 in
theorem ggX10_sum_X10_scaleOf : GoodIn wsX10_sum wsX10_scaleOf := goodIn_r _ [20, 21, 22, 23, 24, 4, 5, 6, 7, 25, 26, 27, 28, 29, 30, 31, 32, 33, 34, 35, 36, 37, 10, 38, 39, 40, 41, 42, 43, 44, 45, 46, 47, 48, 49, 50, 51, 52, 53, 54, 55, 56, 57, 58, 59, 60, 61, 62, 63, 64, 65, 66, 67, 68, 69, 70, 71, 72, 73, 74, 75, 76, 77, 78, 79, 80, 81, 82, 83, 84, 85, 86, 87, 88, 89, 90, 91, 92, 93, 94, 95, 96, 97, 98, 99, 100, 101, 102, 103, 104, 105, 106, 107, 108, 109, 110, 111, 112, 113, 114, 115, 116, 117, 118, 119, 120, 121, 122, 123, 124, 125, 126, 127, 128, 129, 130, 131, 132, 133, 134, 135, 136, 137, 138, 139, 140, 141, 142, 143, 144, 145, 146, 147, 148, 149, 150, 151, 152, 153] (by decide +kernel) (by decide +kernel)
set_option maxRecDepth 20000 in
theorem gX10_sum_X10_scaleOf : GoodIn wsX10_sum (wsV RX10 235 RX10 yX10_scaleOf wsX10_scaleOf) := goodIn_app (goodIn_of _ (by decide +kernel)) ggX10_sum_X10_scaleOf
theorem dX10_sum_0 : decode cX10_sum 0 = .ok (.aload_n 0, 1) := by decide +kernel
theorem dX10_sum_1 : decode cX10_sum 1 = .ok (.iconst 0, 1) := by decide +kernel
theorem dX10_sum_2 : decode cX10_sum 2 = .ok (.putfield 106, 3) := by decide +kernel
theorem dX10_sum_5 : decode cX10_sum 5 = .ok (.iload_n 1, 1) := by decide +kernel
theorem dX10_sum_6 : decode cX10_sum 6 = .ok (.iconst 0, 1) := by decide +kernel
theorem dX10_sum_7 : decode cX10_sum 7 = .ok (.iconst 5, 1) := by decide +kernel
theorem dX10_sum_8 : decode cX10_sum 8 = .ok (.invokestatic 191, 3) := by decide +kernel
theorem dX10_sum_11 : decode cX10_sum 11 = .ok (.ifCond .eq 11, 3) := by decide +kernel
theorem dX10_sum_14 : decode cX10_sum 14 = .ok (.aload_n 0, 1) := by decide +kernel
theorem dX10_sum_15 : decode cX10_sum 15 = .ok (.iload_n 2, 1) := by decide +kernel
theorem dX10_sum_16 : decode cX10_sum 16 = .ok (.invokevirtual 209, 3) := by decide +kernel
theorem dX10_sum_19 : decode cX10_sum 19 = .ok (.ifCond .ne 5, 3) := by decide +kernel
theorem dX10_sum_22 : decode cX10_sum 22 = .ok (.iconst (-1), 1) := by decide +kernel
theorem dX10_sum_23 : decode cX10_sum 23 = .ok (.ireturn, 1) := by decide +kernel
theorem dX10_sum_24 : decode cX10_sum 24 = .ok (.iconst 0, 1) := by decide +kernel
theorem dX10_sum_25 : decode cX10_sum 25 = .ok (.istore_n 3, 1) := by decide +kernel
theorem dX10_sum_26 : decode cX10_sum 26 = .ok (.iconst 0, 1) := by decide +kernel
theorem dX10_sum_27 : decode cX10_sum 27 = .ok (.istore 4, 2) := by decide +kernel
theorem dX10_sum_29 : decode cX10_sum 29 = .ok (.iload 4, 2) := by decide +kernel
theorem dX10_sum_31 : decode cX10_sum 31 = .ok (.aload_n 0, 1) := by decide +kernel
theorem dX10_sum_32 : decode cX10_sum 32 = .ok (.getfield 219, 3) := by decide +kernel
theorem dX10_sum_35 : decode cX10_sum 35 = .ok (.if_icmp .ge 38, 3) := by decide +kernel
theorem dX10_sum_38 : decode cX10_sum 38 = .ok (.iload_n 3, 1) := by decide +kernel
theorem dX10_sum_39 : decode cX10_sum 39 = .ok (.aload_n 0, 1) := by decide +kernel
theorem dX10_sum_40 : decode cX10_sum 40 = .ok (.getfield 38, 3) := by decide +kernel
theorem dX10_sum_43 : decode cX10_sum 43 = .ok (.iload 4, 2) := by decide +kernel
theorem dX10_sum_45 : decode cX10_sum 45 = .ok (.iaload, 1) := by decide +kernel
theorem dX10_sum_46 : decode cX10_sum 46 = .ok (.iload_n 1, 1) := by decide +kernel
theorem dX10_sum_47 : decode cX10_sum 47 = .ok (.if_icmp .ne 17, 3) := by decide +kernel
theorem dX10_sum_50 : decode cX10_sum 50 = .ok (.iconst 0, 1) := by decide +kernel
theorem dX10_sum_51 : decode cX10_sum 51 = .ok (.aload_n 0, 1) := by decide +kernel
theorem dX10_sum_52 : decode cX10_sum 52 = .ok (.iload 4, 2) := by decide +kernel
theorem dX10_sum_54 : decode cX10_sum 54 = .ok (.iload_n 2, 1) := by decide +kernel
theorem dX10_sum_55 : decode cX10_sum 55 = .ok (.invokevirtual 235, 3) := by decide +kernel
theorem dX10_sum_58 : decode cX10_sum 58 = .ok (.invokestatic 229, 3) := by decide +kernel
theorem dX10_sum_61 : decode cX10_sum 61 = .ok (.goto 4, 3) := by decide +kernel
theorem dX10_sum_64 : decode cX10_sum 64 = .ok (.iconst 0, 1) := by decide +kernel
theorem dX10_sum_65 : decode cX10_sum 65 = .ok (.iadd, 1) := by decide +kernel
theorem dX10_sum_66 : decode cX10_sum 66 = .ok (.istore_n 3, 1) := by decide +kernel
theorem dX10_sum_67 : decode cX10_sum 67 = .ok (.iinc 4 1, 3) := by decide +kernel
theorem dX10_sum_70 : decode cX10_sum 70 = .ok (.goto (-41), 3) := by decide +kernel
theorem dX10_sum_73 : decode cX10_sum 73 = .ok (.iload_n 3, 1) := by decide +kernel
theorem dX10_sum_74 : decode cX10_sum 74 = .ok (.ireturn, 1) := by decide +kernel
set_option maxRecDepth 20000 in
theorem ggX10_price_X10_isIn : GoodIn wsX10_price wsX10_isIn := goodIn_r _ [6] (by decide +kernel) (by decide +kernel)
set_option maxRecDepth 20000 in
theorem gX10_price_X10_isIn : GoodIn wsX10_price (va_wsS RX10 191 yX10_isIn wsX10_isIn) := goodIn_app (goodIn_of _ (by decide +kernel)) ggX10_price_X10_isIn
theorem dX10_price_0 : decode cX10_price 0 = .ok (.aload_n 0, 1) := by decide +kernel
theorem dX10_price_1 : decode cX10_price 1 = .ok (.iconst 0, 1) := by decide +kernel
theorem dX10_price_2 : decode cX10_price 2 = .ok (.putfield 106, 3) := by decide +kernel
theorem dX10_price_5 : decode cX10_price 5 = .ok (.iload_n 1, 1) := by decide +kernel
theorem dX10_price_6 : decode cX10_price 6 = .ok (.iconst 0, 1) := by decide +kernel
theorem dX10_price_7 : decode cX10_price 7 = .ok (.iconst 5, 1) := by decide +kernel
theorem dX10_price_8 : decode cX10_price 8 = .ok (.invokestatic 191, 3) := by decide +kernel
theorem dX10_price_11 : decode cX10_price 11 = .ok (.ifCond .eq 13, 3) := by decide +kernel
theorem dX10_price_14 : decode cX10_price 14 = .ok (.iload_n 2, 1) := by decide +kernel
theorem dX10_price_15 : decode cX10_price 15 = .ok (.iconst 0, 1) := by decide +kernel
theorem dX10_price_16 : decode cX10_price 16 = .ok (.bipush 20, 2) := by decide +kernel
theorem dX10_price_18 : decode cX10_price 18 = .ok (.invokestatic 191, 3) := by decide +kernel
theorem dX10_price_21 : decode cX10_price 21 = .ok (.ifCond .ne 5, 3) := by decide +kernel
theorem dX10_price_24 : decode cX10_price 24 = .ok (.iconst 0, 1) := by decide +kernel
theorem dX10_price_25 : decode cX10_price 25 = .ok (.ireturn, 1) := by decide +kernel
theorem dX10_price_26 : decode cX10_price 26 = .ok (.aload_n 0, 1) := by decide +kernel
theorem dX10_price_27 : decode cX10_price 27 = .ok (.getfield 65, 3) := by decide +kernel
theorem dX10_price_30 : decode cX10_price 30 = .ok (.iload_n 1, 1) := by decide +kernel
theorem dX10_price_31 : decode cX10_price 31 = .ok (.iload_n 2, 1) := by decide +kernel
theorem dX10_price_32 : decode cX10_price 32 = .ok (.iastore, 1) := by decide +kernel
theorem dX10_price_33 : decode cX10_price 33 = .ok (.iconst 1, 1) := by decide +kernel
theorem dX10_price_34 : decode cX10_price 34 = .ok (.ireturn, 1) := by decide +kernel
set_option maxRecDepth 20000 in
theorem ggX10_payOf_X10_scaleOf : GoodIn wsX10_payOf wsX10_scaleOf := goodIn_r _ [12, 13, 14, 15, 16, 2, 3, 4, 5, 17, 18, 19, 20, 21, 22, 23, 24, 25, 26, 27, 28, 29, 11, 30, 31, 32, 33, 34, 35, 36, 37, 38, 39, 40, 41, 42, 43, 44, 45, 46, 47, 48, 49, 50, 51, 52, 53, 54, 55, 56, 57, 58, 59, 60, 61, 62, 63, 64, 65, 66, 67, 68, 69, 70, 71, 72, 73, 74, 75, 76, 77, 78, 79, 80, 81, 82, 83, 84, 85, 86, 87, 88, 89, 90, 91, 92, 93, 94, 95, 96, 97, 98, 99, 100, 101, 102, 103, 104, 105, 106, 107, 108, 109, 110, 111, 112, 113, 114, 115, 116, 117, 118, 119, 120, 121, 122, 123, 124, 125, 126, 127, 128, 129, 130, 131, 132, 133, 134, 135, 136, 137, 138, 139, 140, 141, 142, 143, 144, 145] (by decide +kernel) (by decide +kernel)
set_option maxRecDepth 20000 in
theorem gX10_payOf_X10_scaleOf : GoodIn wsX10_payOf (wsV RX10 235 RX10 yX10_scaleOf wsX10_scaleOf) := goodIn_app (goodIn_of _ (by decide +kernel)) ggX10_payOf_X10_scaleOf
theorem dX10_payOf_0 : decode cX10_payOf 0 = .ok (.iconst 0, 1) := by decide +kernel
theorem dX10_payOf_1 : decode cX10_payOf 1 = .ok (.aload_n 0, 1) := by decide +kernel
theorem dX10_payOf_2 : decode cX10_payOf 2 = .ok (.iload_n 1, 1) := by decide +kernel
theorem dX10_payOf_3 : decode cX10_payOf 3 = .ok (.aload_n 0, 1) := by decide +kernel
theorem dX10_payOf_4 : decode cX10_payOf 4 = .ok (.getfield 202, 3) := by decide +kernel
theorem dX10_payOf_7 : decode cX10_payOf 7 = .ok (.invokevirtual 235, 3) := by decide +kernel
theorem dX10_payOf_10 : decode cX10_payOf 10 = .ok (.invokestatic 229, 3) := by decide +kernel
theorem dX10_payOf_13 : decode cX10_payOf 13 = .ok (.aload_n 0, 1) := by decide +kernel
theorem dX10_payOf_14 : decode cX10_payOf 14 = .ok (.getfield 65, 3) := by decide +kernel
theorem dX10_payOf_17 : decode cX10_payOf 17 = .ok (.aload_n 0, 1) := by decide +kernel
theorem dX10_payOf_18 : decode cX10_payOf 18 = .ok (.getfield 38, 3) := by decide +kernel
theorem dX10_payOf_21 : decode cX10_payOf 21 = .ok (.iload_n 1, 1) := by decide +kernel
theorem dX10_payOf_22 : decode cX10_payOf 22 = .ok (.iaload, 1) := by decide +kernel
theorem dX10_payOf_23 : decode cX10_payOf 23 = .ok (.iaload, 1) := by decide +kernel
theorem dX10_payOf_24 : decode cX10_payOf 24 = .ok (.imul, 1) := by decide +kernel
theorem dX10_payOf_25 : decode cX10_payOf 25 = .ok (.ireturn, 1) := by decide +kernel
set_option maxRecDepth 20000 in
theorem ggX10_day_X10_payOf : GoodIn wsX10_day wsX10_payOf := goodIn_r _ [14, 4, 15, 16, 17, 18, 19, 20, 21, 22, 23, 13, 24, 25, 26, 27, 28, 29, 30, 31, 32, 33, 34, 35, 36, 37, 38, 39, 40, 41, 42, 43, 44, 45, 46, 47, 48, 49, 50, 51, 52, 53, 54, 55, 56, 57, 58, 59, 60, 61, 62, 63, 64, 65, 66, 67, 68, 69, 70, 71, 72, 73, 74, 75, 76, 77, 78, 79, 80, 81, 82, 83, 84, 85, 86, 87, 88, 89, 90, 91, 92, 93, 94, 95, 96, 97, 98, 99, 100, 101, 102, 103, 104, 105, 106, 107, 108, 109, 110, 111, 112, 113, 114, 115, 116, 117, 118, 119, 120, 121, 122, 123, 124, 125, 126, 127, 128, 129, 130, 131, 132, 133, 134, 135, 136, 137, 138, 139, 140, 141, 142, 143, 144, 145, 146, 147, 148, 149, 150, 151, 152, 153, 154, 155, 156, 157] (by decide +kernel) (by decide +kernel)
set_option maxRecDepth 20000 in
theorem gX10_day_X10_payOf : GoodIn wsX10_day (wsV RX10 238 RX10 yX10_payOf wsX10_payOf) := goodIn_app (goodIn_of _ (by decide +kernel)) ggX10_day_X10_payOf
theorem dX10_day_0 : decode cX10_day 0 = .ok (.aload_n 0, 1) := by decide +kernel
theorem dX10_day_1 : decode cX10_day 1 = .ok (.iconst 0, 1) := by decide +kernel
theorem dX10_day_2 : decode cX10_day 2 = .ok (.putfield 106, 3) := by decide +kernel
theorem dX10_day_5 : decode cX10_day 5 = .ok (.iconst 0, 1) := by decide +kernel
theorem dX10_day_6 : decode cX10_day 6 = .ok (.istore_n 1, 1) := by decide +kernel
theorem dX10_day_7 : decode cX10_day 7 = .ok (.iconst 0, 1) := by decide +kernel
theorem dX10_day_8 : decode cX10_day 8 = .ok (.istore_n 2, 1) := by decide +kernel
theorem dX10_day_9 : decode cX10_day 9 = .ok (.iload_n 2, 1) := by decide +kernel
theorem dX10_day_10 : decode cX10_day 10 = .ok (.aload_n 0, 1) := by decide +kernel
theorem dX10_day_11 : decode cX10_day 11 = .ok (.getfield 219, 3) := by decide +kernel
theorem dX10_day_14 : decode cX10_day 14 = .ok (.if_icmp .ge 31, 3) := by decide +kernel
theorem dX10_day_17 : decode cX10_day 17 = .ok (.iload_n 1, 1) := by decide +kernel
theorem dX10_day_18 : decode cX10_day 18 = .ok (.aload_n 0, 1) := by decide +kernel
theorem dX10_day_19 : decode cX10_day 19 = .ok (.iload_n 2, 1) := by decide +kernel
theorem dX10_day_20 : decode cX10_day 20 = .ok (.invokevirtual 238, 3) := by decide +kernel
theorem dX10_day_23 : decode cX10_day 23 = .ok (.aload_n 0, 1) := by decide +kernel
theorem dX10_day_24 : decode cX10_day 24 = .ok (.getfield 59, 3) := by decide +kernel
theorem dX10_day_27 : decode cX10_day 27 = .ok (.iload_n 2, 1) := by decide +kernel
theorem dX10_day_28 : decode cX10_day 28 = .ok (.iaload, 1) := by decide +kernel
theorem dX10_day_29 : decode cX10_day 29 = .ok (.if_icmp .eq 7, 3) := by decide +kernel
theorem dX10_day_32 : decode cX10_day 32 = .ok (.iconst 1, 1) := by decide +kernel
theorem dX10_day_33 : decode cX10_day 33 = .ok (.goto 4, 3) := by decide +kernel
theorem dX10_day_36 : decode cX10_day 36 = .ok (.iconst 0, 1) := by decide +kernel
theorem dX10_day_37 : decode cX10_day 37 = .ok (.iadd, 1) := by decide +kernel
theorem dX10_day_38 : decode cX10_day 38 = .ok (.istore_n 1, 1) := by decide +kernel
theorem dX10_day_39 : decode cX10_day 39 = .ok (.iinc 2 1, 3) := by decide +kernel
theorem dX10_day_42 : decode cX10_day 42 = .ok (.goto (-33), 3) := by decide +kernel
theorem dX10_day_45 : decode cX10_day 45 = .ok (.aload_n 0, 1) := by decide +kernel
theorem dX10_day_46 : decode cX10_day 46 = .ok (.getfield 202, 3) := by decide +kernel
theorem dX10_day_49 : decode cX10_day 49 = .ok (.sipush 500, 3) := by decide +kernel
theorem dX10_day_52 : decode cX10_day 52 = .ok (.if_icmp .eq 15, 3) := by decide +kernel
theorem dX10_day_55 : decode cX10_day 55 = .ok (.aload_n 0, 1) := by decide +kernel
theorem dX10_day_56 : decode cX10_day 56 = .ok (.getfield 241, 3) := by decide +kernel
theorem dX10_day_59 : decode cX10_day 59 = .ok (.iload_n 1, 1) := by decide +kernel
theorem dX10_day_60 : decode cX10_day 60 = .ok (.iadd, 1) := by decide +kernel
theorem dX10_day_61 : decode cX10_day 61 = .ok (.sipush 20000, 3) := by decide +kernel
theorem dX10_day_64 : decode cX10_day 64 = .ok (.if_icmp .le 5, 3) := by decide +kernel
theorem dX10_day_67 : decode cX10_day 67 = .ok (.iconst (-1), 1) := by decide +kernel
theorem dX10_day_68 : decode cX10_day 68 = .ok (.ireturn, 1) := by decide +kernel
theorem dX10_day_69 : decode cX10_day 69 = .ok (.iconst 0, 1) := by decide +kernel
theorem dX10_day_70 : decode cX10_day 70 = .ok (.istore_n 2, 1) := by decide +kernel
theorem dX10_day_71 : decode cX10_day 71 = .ok (.iload_n 2, 1) := by decide +kernel
theorem dX10_day_72 : decode cX10_day 72 = .ok (.aload_n 0, 1) := by decide +kernel
theorem dX10_day_73 : decode cX10_day 73 = .ok (.getfield 219, 3) := by decide +kernel
theorem dX10_day_76 : decode cX10_day 76 = .ok (.if_icmp .ge 102, 3) := by decide +kernel
theorem dX10_day_79 : decode cX10_day 79 = .ok (.aload_n 0, 1) := by decide +kernel
theorem dX10_day_80 : decode cX10_day 80 = .ok (.iload_n 2, 1) := by decide +kernel
theorem dX10_day_81 : decode cX10_day 81 = .ok (.invokevirtual 238, 3) := by decide +kernel
theorem dX10_day_84 : decode cX10_day 84 = .ok (.istore_n 3, 1) := by decide +kernel
theorem dX10_day_85 : decode cX10_day 85 = .ok (.iload_n 3, 1) := by decide +kernel
theorem dX10_day_86 : decode cX10_day 86 = .ok (.aload_n 0, 1) := by decide +kernel
theorem dX10_day_87 : decode cX10_day 87 = .ok (.getfield 59, 3) := by decide +kernel
theorem dX10_day_90 : decode cX10_day 90 = .ok (.iload_n 2, 1) := by decide +kernel
theorem dX10_day_91 : decode cX10_day 91 = .ok (.iaload, 1) := by decide +kernel
theorem dX10_day_92 : decode cX10_day 92 = .ok (.if_icmp .ne 6, 3) := by decide +kernel
theorem dX10_day_95 : decode cX10_day 95 = .ok (.goto 77, 3) := by decide +kernel
theorem dX10_day_98 : decode cX10_day 98 = .ok (.aload_n 0, 1) := by decide +kernel
theorem dX10_day_99 : decode cX10_day 99 = .ok (.getfield 68, 3) := by decide +kernel
theorem dX10_day_102 : decode cX10_day 102 = .ok (.aload_n 0, 1) := by decide +kernel
theorem dX10_day_103 : decode cX10_day 103 = .ok (.getfield 241, 3) := by decide +kernel
theorem dX10_day_106 : decode cX10_day 106 = .ok (.aload_n 0, 1) := by decide +kernel
theorem dX10_day_107 : decode cX10_day 107 = .ok (.getfield 202, 3) := by decide +kernel
theorem dX10_day_110 : decode cX10_day 110 = .ok (.iastore, 1) := by decide +kernel
theorem dX10_day_111 : decode cX10_day 111 = .ok (.aload_n 0, 1) := by decide +kernel
theorem dX10_day_112 : decode cX10_day 112 = .ok (.getfield 71, 3) := by decide +kernel
theorem dX10_day_115 : decode cX10_day 115 = .ok (.aload_n 0, 1) := by decide +kernel
theorem dX10_day_116 : decode cX10_day 116 = .ok (.getfield 241, 3) := by decide +kernel
theorem dX10_day_119 : decode cX10_day 119 = .ok (.iload_n 2, 1) := by decide +kernel
theorem dX10_day_120 : decode cX10_day 120 = .ok (.iastore, 1) := by decide +kernel
theorem dX10_day_121 : decode cX10_day 121 = .ok (.aload_n 0, 1) := by decide +kernel
theorem dX10_day_122 : decode cX10_day 122 = .ok (.getfield 74, 3) := by decide +kernel
theorem dX10_day_125 : decode cX10_day 125 = .ok (.aload_n 0, 1) := by decide +kernel
theorem dX10_day_126 : decode cX10_day 126 = .ok (.getfield 241, 3) := by decide +kernel
theorem dX10_day_129 : decode cX10_day 129 = .ok (.iload_n 3, 1) := by decide +kernel
theorem dX10_day_130 : decode cX10_day 130 = .ok (.aload_n 0, 1) := by decide +kernel
theorem dX10_day_131 : decode cX10_day 131 = .ok (.getfield 59, 3) := by decide +kernel
theorem dX10_day_134 : decode cX10_day 134 = .ok (.iload_n 2, 1) := by decide +kernel
theorem dX10_day_135 : decode cX10_day 135 = .ok (.iaload, 1) := by decide +kernel
theorem dX10_day_136 : decode cX10_day 136 = .ok (.isub, 1) := by decide +kernel
theorem dX10_day_137 : decode cX10_day 137 = .ok (.iastore, 1) := by decide +kernel
theorem dX10_day_138 : decode cX10_day 138 = .ok (.aload_n 0, 1) := by decide +kernel
theorem dX10_day_139 : decode cX10_day 139 = .ok (.dup, 1) := by decide +kernel
theorem dX10_day_140 : decode cX10_day 140 = .ok (.getfield 244, 3) := by decide +kernel
theorem dX10_day_143 : decode cX10_day 143 = .ok (.iload_n 3, 1) := by decide +kernel
theorem dX10_day_144 : decode cX10_day 144 = .ok (.aload_n 0, 1) := by decide +kernel
theorem dX10_day_145 : decode cX10_day 145 = .ok (.getfield 59, 3) := by decide +kernel
theorem dX10_day_148 : decode cX10_day 148 = .ok (.iload_n 2, 1) := by decide +kernel
theorem dX10_day_149 : decode cX10_day 149 = .ok (.iaload, 1) := by decide +kernel
theorem dX10_day_150 : decode cX10_day 150 = .ok (.isub, 1) := by decide +kernel
theorem dX10_day_151 : decode cX10_day 151 = .ok (.iadd, 1) := by decide +kernel
theorem dX10_day_152 : decode cX10_day 152 = .ok (.putfield 244, 3) := by decide +kernel
theorem dX10_day_155 : decode cX10_day 155 = .ok (.aload_n 0, 1) := by decide +kernel
theorem dX10_day_156 : decode cX10_day 156 = .ok (.getfield 59, 3) := by decide +kernel
theorem dX10_day_159 : decode cX10_day 159 = .ok (.iload_n 2, 1) := by decide +kernel
theorem dX10_day_160 : decode cX10_day 160 = .ok (.iload_n 3, 1) := by decide +kernel
theorem dX10_day_161 : decode cX10_day 161 = .ok (.iastore, 1) := by decide +kernel
theorem dX10_day_162 : decode cX10_day 162 = .ok (.aload_n 0, 1) := by decide +kernel
theorem dX10_day_163 : decode cX10_day 163 = .ok (.dup, 1) := by decide +kernel
theorem dX10_day_164 : decode cX10_day 164 = .ok (.getfield 241, 3) := by decide +kernel
theorem dX10_day_167 : decode cX10_day 167 = .ok (.iconst 1, 1) := by decide +kernel
theorem dX10_day_168 : decode cX10_day 168 = .ok (.iadd, 1) := by decide +kernel
theorem dX10_day_169 : decode cX10_day 169 = .ok (.putfield 241, 3) := by decide +kernel
theorem dX10_day_172 : decode cX10_day 172 = .ok (.iinc 2 1, 3) := by decide +kernel
theorem dX10_day_175 : decode cX10_day 175 = .ok (.goto (-104), 3) := by decide +kernel
theorem dX10_day_178 : decode cX10_day 178 = .ok (.aload_n 0, 1) := by decide +kernel
theorem dX10_day_179 : decode cX10_day 179 = .ok (.dup, 1) := by decide +kernel
theorem dX10_day_180 : decode cX10_day 180 = .ok (.getfield 202, 3) := by decide +kernel
theorem dX10_day_183 : decode cX10_day 183 = .ok (.iconst 1, 1) := by decide +kernel
theorem dX10_day_184 : decode cX10_day 184 = .ok (.iadd, 1) := by decide +kernel
theorem dX10_day_185 : decode cX10_day 185 = .ok (.putfield 202, 3) := by decide +kernel
theorem dX10_day_188 : decode cX10_day 188 = .ok (.iload_n 1, 1) := by decide +kernel
theorem dX10_day_189 : decode cX10_day 189 = .ok (.ireturn, 1) := by decide +kernel
set_option maxRecDepth 20000 in
theorem ggX10_line_X10_isIn : GoodIn wsX10_line wsX10_isIn := goodIn_r _ [10] (by decide +kernel) (by decide +kernel)
set_option maxRecDepth 20000 in
theorem gX10_line_X10_isIn : GoodIn wsX10_line (va_wsS RX10 191 yX10_isIn wsX10_isIn) := goodIn_app (goodIn_of _ (by decide +kernel)) ggX10_line_X10_isIn
theorem dX10_line_0 : decode cX10_line 0 = .ok (.aload_n 0, 1) := by decide +kernel
theorem dX10_line_1 : decode cX10_line 1 = .ok (.iconst 0, 1) := by decide +kernel
theorem dX10_line_2 : decode cX10_line 2 = .ok (.putfield 106, 3) := by decide +kernel
theorem dX10_line_5 : decode cX10_line 5 = .ok (.iload_n 1, 1) := by decide +kernel
theorem dX10_line_6 : decode cX10_line 6 = .ok (.iconst 0, 1) := by decide +kernel
theorem dX10_line_7 : decode cX10_line 7 = .ok (.aload_n 0, 1) := by decide +kernel
theorem dX10_line_8 : decode cX10_line 8 = .ok (.getfield 241, 3) := by decide +kernel
theorem dX10_line_11 : decode cX10_line 11 = .ok (.iconst 1, 1) := by decide +kernel
theorem dX10_line_12 : decode cX10_line 12 = .ok (.isub, 1) := by decide +kernel
theorem dX10_line_13 : decode cX10_line 13 = .ok (.invokestatic 191, 3) := by decide +kernel
theorem dX10_line_16 : decode cX10_line 16 = .ok (.ifCond .eq 12, 3) := by decide +kernel
theorem dX10_line_19 : decode cX10_line 19 = .ok (.iload_n 2, 1) := by decide +kernel
theorem dX10_line_20 : decode cX10_line 20 = .ok (.iconst 0, 1) := by decide +kernel
theorem dX10_line_21 : decode cX10_line 21 = .ok (.iconst 2, 1) := by decide +kernel
theorem dX10_line_22 : decode cX10_line 22 = .ok (.invokestatic 191, 3) := by decide +kernel
theorem dX10_line_25 : decode cX10_line 25 = .ok (.ifCond .ne 6, 3) := by decide +kernel
theorem dX10_line_28 : decode cX10_line 28 = .ok (.ldc 247, 2) := by decide +kernel
theorem dX10_line_30 : decode cX10_line 30 = .ok (.ireturn, 1) := by decide +kernel
theorem dX10_line_31 : decode cX10_line 31 = .ok (.iload_n 2, 1) := by decide +kernel
theorem dX10_line_32 : decode cX10_line 32 = .ok (.ifCond .ne 12, 3) := by decide +kernel
theorem dX10_line_35 : decode cX10_line 35 = .ok (.aload_n 0, 1) := by decide +kernel
theorem dX10_line_36 : decode cX10_line 36 = .ok (.getfield 68, 3) := by decide +kernel
theorem dX10_line_39 : decode cX10_line 39 = .ok (.iload_n 1, 1) := by decide +kernel
theorem dX10_line_40 : decode cX10_line 40 = .ok (.iaload, 1) := by decide +kernel
theorem dX10_line_41 : decode cX10_line 41 = .ok (.goto 23, 3) := by decide +kernel
theorem dX10_line_44 : decode cX10_line 44 = .ok (.iload_n 2, 1) := by decide +kernel
theorem dX10_line_45 : decode cX10_line 45 = .ok (.iconst 1, 1) := by decide +kernel
theorem dX10_line_46 : decode cX10_line 46 = .ok (.if_icmp .ne 12, 3) := by decide +kernel
theorem dX10_line_49 : decode cX10_line 49 = .ok (.aload_n 0, 1) := by decide +kernel
theorem dX10_line_50 : decode cX10_line 50 = .ok (.getfield 71, 3) := by decide +kernel
theorem dX10_line_53 : decode cX10_line 53 = .ok (.iload_n 1, 1) := by decide +kernel
theorem dX10_line_54 : decode cX10_line 54 = .ok (.iaload, 1) := by decide +kernel
theorem dX10_line_55 : decode cX10_line 55 = .ok (.goto 9, 3) := by decide +kernel
theorem dX10_line_58 : decode cX10_line 58 = .ok (.aload_n 0, 1) := by decide +kernel
theorem dX10_line_59 : decode cX10_line 59 = .ok (.getfield 74, 3) := by decide +kernel
theorem dX10_line_62 : decode cX10_line 62 = .ok (.iload_n 1, 1) := by decide +kernel
theorem dX10_line_63 : decode cX10_line 63 = .ok (.iaload, 1) := by decide +kernel
theorem dX10_line_64 : decode cX10_line 64 = .ok (.ireturn, 1) := by decide +kernel
set_option maxRecDepth 20000 in
theorem ggX10_check_X10_isLog : GoodIn wsX10_check wsX10_isLog := goodIn_r _ [7, 8, 12, 13, 14, 15, 16, 17, 18, 19, 20, 21, 22, 23, 24, 25, 26, 27, 28, 29, 30, 31, 32, 33, 34, 35, 36, 37, 38, 39, 40, 41, 42, 43, 44, 45, 46, 47, 48, 49, 50, 51, 52, 53, 54, 55, 56, 57, 58, 59, 60, 61] (by decide +kernel) (by decide +kernel)
set_option maxRecDepth 20000 in
theorem gX10_check_X10_isLog : GoodIn wsX10_check (wsV RX10 222 RX10 yX10_isLog wsX10_isLog) := goodIn_app (goodIn_of _ (by decide +kernel)) ggX10_check_X10_isLog
set_option maxRecDepth 20000 in
theorem ggX10_check_X10_isIn : GoodIn wsX10_check wsX10_isIn := goodIn_r _ [11] (by decide +kernel) (by decide +kernel)
set_option maxRecDepth 20000 in
theorem gX10_check_X10_isIn : GoodIn wsX10_check (va_wsS RX10 191 yX10_isIn wsX10_isIn) := goodIn_app (goodIn_of _ (by decide +kernel)) ggX10_check_X10_isIn
theorem dX10_check_0 : decode cX10_check 0 = .ok (.aload_n 0, 1) := by decide +kernel
theorem dX10_check_1 : decode cX10_check 1 = .ok (.iconst 0, 1) := by decide +kernel
theorem dX10_check_2 : decode cX10_check 2 = .ok (.putfield 106, 3) := by decide +kernel
theorem dX10_check_5 : decode cX10_check 5 = .ok (.aload_n 0, 1) := by decide +kernel
theorem dX10_check_6 : decode cX10_check 6 = .ok (.iload_n 1, 1) := by decide +kernel
theorem dX10_check_7 : decode cX10_check 7 = .ok (.invokevirtual 222, 3) := by decide +kernel
theorem dX10_check_10 : decode cX10_check 10 = .ok (.ifCond .eq 13, 3) := by decide +kernel
theorem dX10_check_13 : decode cX10_check 13 = .ok (.iload_n 2, 1) := by decide +kernel
theorem dX10_check_14 : decode cX10_check 14 = .ok (.iconst 1, 1) := by decide +kernel
theorem dX10_check_15 : decode cX10_check 15 = .ok (.bipush 99, 2) := by decide +kernel
theorem dX10_check_17 : decode cX10_check 17 = .ok (.invokestatic 191, 3) := by decide +kernel
theorem dX10_check_20 : decode cX10_check 20 = .ok (.ifCond .ne 5, 3) := by decide +kernel
theorem dX10_check_23 : decode cX10_check 23 = .ok (.iconst 0, 1) := by decide +kernel
theorem dX10_check_24 : decode cX10_check 24 = .ok (.ireturn, 1) := by decide +kernel
theorem dX10_check_25 : decode cX10_check 25 = .ok (.aload_n 0, 1) := by decide +kernel
theorem dX10_check_26 : decode cX10_check 26 = .ok (.getfield 62, 3) := by decide +kernel
theorem dX10_check_29 : decode cX10_check 29 = .ok (.iload_n 1, 1) := by decide +kernel
theorem dX10_check_30 : decode cX10_check 30 = .ok (.iload_n 2, 1) := by decide +kernel
theorem dX10_check_31 : decode cX10_check 31 = .ok (.iastore, 1) := by decide +kernel
theorem dX10_check_32 : decode cX10_check 32 = .ok (.iconst 1, 1) := by decide +kernel
theorem dX10_check_33 : decode cX10_check 33 = .ok (.ireturn, 1) := by decide +kernel
set_option maxRecDepth 20000 in
theorem ggX10_habit_X10_isIn : GoodIn wsX10_habit wsX10_isIn := goodIn_r _ [10] (by decide +kernel) (by decide +kernel)
set_option maxRecDepth 20000 in
theorem gX10_habit_X10_isIn : GoodIn wsX10_habit (va_wsS RX10 191 yX10_isIn wsX10_isIn) := goodIn_app (goodIn_of _ (by decide +kernel)) ggX10_habit_X10_isIn
theorem dX10_habit_0 : decode cX10_habit 0 = .ok (.aload_n 0, 1) := by decide +kernel
theorem dX10_habit_1 : decode cX10_habit 1 = .ok (.iconst 0, 1) := by decide +kernel
theorem dX10_habit_2 : decode cX10_habit 2 = .ok (.putfield 106, 3) := by decide +kernel
theorem dX10_habit_5 : decode cX10_habit 5 = .ok (.iload_n 1, 1) := by decide +kernel
theorem dX10_habit_6 : decode cX10_habit 6 = .ok (.iconst 0, 1) := by decide +kernel
theorem dX10_habit_7 : decode cX10_habit 7 = .ok (.iconst 5, 1) := by decide +kernel
theorem dX10_habit_8 : decode cX10_habit 8 = .ok (.invokestatic 191, 3) := by decide +kernel
theorem dX10_habit_11 : decode cX10_habit 11 = .ok (.ifCond .eq 12, 3) := by decide +kernel
theorem dX10_habit_14 : decode cX10_habit 14 = .ok (.iload_n 2, 1) := by decide +kernel
theorem dX10_habit_15 : decode cX10_habit 15 = .ok (.iconst 0, 1) := by decide +kernel
theorem dX10_habit_16 : decode cX10_habit 16 = .ok (.iconst 1, 1) := by decide +kernel
theorem dX10_habit_17 : decode cX10_habit 17 = .ok (.invokestatic 191, 3) := by decide +kernel
theorem dX10_habit_20 : decode cX10_habit 20 = .ok (.ifCond .ne 7, 3) := by decide +kernel
theorem dX10_habit_23 : decode cX10_habit 23 = .ok (.ldc2_w 248, 3) := by decide +kernel
theorem dX10_habit_26 : decode cX10_habit 26 = .ok (.lreturn, 1) := by decide +kernel
theorem dX10_habit_27 : decode cX10_habit 27 = .ok (.lconst 0, 1) := by decide +kernel
theorem dX10_habit_28 : decode cX10_habit 28 = .ok (.lstore_n 3, 1) := by decide +kernel
theorem dX10_habit_29 : decode cX10_habit 29 = .ok (.lconst 0, 1) := by decide +kernel
theorem dX10_habit_30 : decode cX10_habit 30 = .ok (.lstore 5, 2) := by decide +kernel
theorem dX10_habit_32 : decode cX10_habit 32 = .ok (.iconst 0, 1) := by decide +kernel
theorem dX10_habit_33 : decode cX10_habit 33 = .ok (.istore 7, 2) := by decide +kernel
theorem dX10_habit_35 : decode cX10_habit 35 = .ok (.iload 7, 2) := by decide +kernel
theorem dX10_habit_37 : decode cX10_habit 37 = .ok (.aload_n 0, 1) := by decide +kernel
theorem dX10_habit_38 : decode cX10_habit 38 = .ok (.getfield 219, 3) := by decide +kernel
theorem dX10_habit_41 : decode cX10_habit 41 = .ok (.if_icmp .ge 73, 3) := by decide +kernel
theorem dX10_habit_44 : decode cX10_habit 44 = .ok (.aload_n 0, 1) := by decide +kernel
theorem dX10_habit_45 : decode cX10_habit 45 = .ok (.getfield 41, 3) := by decide +kernel
theorem dX10_habit_48 : decode cX10_habit 48 = .ok (.iload 7, 2) := by decide +kernel
theorem dX10_habit_50 : decode cX10_habit 50 = .ok (.iaload, 1) := by decide +kernel
theorem dX10_habit_51 : decode cX10_habit 51 = .ok (.iload_n 1, 1) := by decide +kernel
theorem dX10_habit_52 : decode cX10_habit 52 = .ok (.if_icmp .ne 56, 3) := by decide +kernel
theorem dX10_habit_55 : decode cX10_habit 55 = .ok (.aload_n 0, 1) := by decide +kernel
theorem dX10_habit_56 : decode cX10_habit 56 = .ok (.getfield 62, 3) := by decide +kernel
theorem dX10_habit_59 : decode cX10_habit 59 = .ok (.iload 7, 2) := by decide +kernel
theorem dX10_habit_61 : decode cX10_habit 61 = .ok (.iaload, 1) := by decide +kernel
theorem dX10_habit_62 : decode cX10_habit 62 = .ok (.ifCond .ne 6, 3) := by decide +kernel
theorem dX10_habit_65 : decode cX10_habit 65 = .ok (.goto 43, 3) := by decide +kernel
theorem dX10_habit_68 : decode cX10_habit 68 = .ok (.lload_n 3, 1) := by decide +kernel
theorem dX10_habit_69 : decode cX10_habit 69 = .ok (.aload_n 0, 1) := by decide +kernel
theorem dX10_habit_70 : decode cX10_habit 70 = .ok (.getfield 44, 3) := by decide +kernel
theorem dX10_habit_73 : decode cX10_habit 73 = .ok (.iload 7, 2) := by decide +kernel
theorem dX10_habit_75 : decode cX10_habit 75 = .ok (.iaload, 1) := by decide +kernel
theorem dX10_habit_76 : decode cX10_habit 76 = .ok (.aload_n 0, 1) := by decide +kernel
theorem dX10_habit_77 : decode cX10_habit 77 = .ok (.getfield 62, 3) := by decide +kernel
theorem dX10_habit_80 : decode cX10_habit 80 = .ok (.iload 7, 2) := by decide +kernel
theorem dX10_habit_82 : decode cX10_habit 82 = .ok (.iaload, 1) := by decide +kernel
theorem dX10_habit_83 : decode cX10_habit 83 = .ok (.imul, 1) := by decide +kernel
theorem dX10_habit_84 : decode cX10_habit 84 = .ok (.i2l, 1) := by decide +kernel
theorem dX10_habit_85 : decode cX10_habit 85 = .ok (.ladd, 1) := by decide +kernel
theorem dX10_habit_86 : decode cX10_habit 86 = .ok (.lstore_n 3, 1) := by decide +kernel
theorem dX10_habit_87 : decode cX10_habit 87 = .ok (.lload 5, 2) := by decide +kernel
theorem dX10_habit_89 : decode cX10_habit 89 = .ok (.aload_n 0, 1) := by decide +kernel
theorem dX10_habit_90 : decode cX10_habit 90 = .ok (.getfield 62, 3) := by decide +kernel
theorem dX10_habit_93 : decode cX10_habit 93 = .ok (.iload 7, 2) := by decide +kernel
theorem dX10_habit_95 : decode cX10_habit 95 = .ok (.iaload, 1) := by decide +kernel
theorem dX10_habit_96 : decode cX10_habit 96 = .ok (.aload_n 0, 1) := by decide +kernel
theorem dX10_habit_97 : decode cX10_habit 97 = .ok (.getfield 62, 3) := by decide +kernel
theorem dX10_habit_100 : decode cX10_habit 100 = .ok (.iload 7, 2) := by decide +kernel
theorem dX10_habit_102 : decode cX10_habit 102 = .ok (.iaload, 1) := by decide +kernel
theorem dX10_habit_103 : decode cX10_habit 103 = .ok (.imul, 1) := by decide +kernel
theorem dX10_habit_104 : decode cX10_habit 104 = .ok (.i2l, 1) := by decide +kernel
theorem dX10_habit_105 : decode cX10_habit 105 = .ok (.ladd, 1) := by decide +kernel
theorem dX10_habit_106 : decode cX10_habit 106 = .ok (.lstore 5, 2) := by decide +kernel
theorem dX10_habit_108 : decode cX10_habit 108 = .ok (.iinc 7 1, 3) := by decide +kernel
theorem dX10_habit_111 : decode cX10_habit 111 = .ok (.goto (-76), 3) := by decide +kernel
theorem dX10_habit_114 : decode cX10_habit 114 = .ok (.lload 5, 2) := by decide +kernel
theorem dX10_habit_116 : decode cX10_habit 116 = .ok (.lconst 0, 1) := by decide +kernel
theorem dX10_habit_117 : decode cX10_habit 117 = .ok (.lcmp, 1) := by decide +kernel
theorem dX10_habit_118 : decode cX10_habit 118 = .ok (.ifCond .ne 7, 3) := by decide +kernel
theorem dX10_habit_121 : decode cX10_habit 121 = .ok (.ldc2_w 248, 3) := by decide +kernel
theorem dX10_habit_124 : decode cX10_habit 124 = .ok (.lreturn, 1) := by decide +kernel
theorem dX10_habit_125 : decode cX10_habit 125 = .ok (.lload_n 3, 1) := by decide +kernel
theorem dX10_habit_126 : decode cX10_habit 126 = .ok (.lstore 7, 2) := by decide +kernel
theorem dX10_habit_128 : decode cX10_habit 128 = .ok (.lload 5, 2) := by decide +kernel
theorem dX10_habit_130 : decode cX10_habit 130 = .ok (.lstore 9, 2) := by decide +kernel
theorem dX10_habit_132 : decode cX10_habit 132 = .ok (.lload 9, 2) := by decide +kernel
theorem dX10_habit_134 : decode cX10_habit 134 = .ok (.lconst 0, 1) := by decide +kernel
theorem dX10_habit_135 : decode cX10_habit 135 = .ok (.lcmp, 1) := by decide +kernel
theorem dX10_habit_136 : decode cX10_habit 136 = .ok (.ifCond .eq 21, 3) := by decide +kernel
theorem dX10_habit_139 : decode cX10_habit 139 = .ok (.lload 7, 2) := by decide +kernel
theorem dX10_habit_141 : decode cX10_habit 141 = .ok (.lload 9, 2) := by decide +kernel
theorem dX10_habit_143 : decode cX10_habit 143 = .ok (.lrem, 1) := by decide +kernel
theorem dX10_habit_144 : decode cX10_habit 144 = .ok (.lstore 11, 2) := by decide +kernel
theorem dX10_habit_146 : decode cX10_habit 146 = .ok (.lload 9, 2) := by decide +kernel
theorem dX10_habit_148 : decode cX10_habit 148 = .ok (.lstore 7, 2) := by decide +kernel
theorem dX10_habit_150 : decode cX10_habit 150 = .ok (.lload 11, 2) := by decide +kernel
theorem dX10_habit_152 : decode cX10_habit 152 = .ok (.lstore 9, 2) := by decide +kernel
theorem dX10_habit_154 : decode cX10_habit 154 = .ok (.goto (-22), 3) := by decide +kernel
theorem dX10_habit_157 : decode cX10_habit 157 = .ok (.iload_n 2, 1) := by decide +kernel
theorem dX10_habit_158 : decode cX10_habit 158 = .ok (.ifCond .ne 10, 3) := by decide +kernel
theorem dX10_habit_161 : decode cX10_habit 161 = .ok (.lload_n 3, 1) := by decide +kernel
theorem dX10_habit_162 : decode cX10_habit 162 = .ok (.lload 7, 2) := by decide +kernel
theorem dX10_habit_164 : decode cX10_habit 164 = .ok (.ldiv, 1) := by decide +kernel
theorem dX10_habit_165 : decode cX10_habit 165 = .ok (.goto 8, 3) := by decide +kernel
theorem dX10_habit_168 : decode cX10_habit 168 = .ok (.lload 5, 2) := by decide +kernel
theorem dX10_habit_170 : decode cX10_habit 170 = .ok (.lload 7, 2) := by decide +kernel
theorem dX10_habit_172 : decode cX10_habit 172 = .ok (.ldiv, 1) := by decide +kernel
theorem dX10_habit_173 : decode cX10_habit 173 = .ok (.lreturn, 1) := by decide +kernel
set_option maxRecDepth 20000 in
theorem ggX10_row_X10_isIn : GoodIn wsX10_row wsX10_isIn := goodIn_r _ [8] (by decide +kernel) (by decide +kernel)
set_option maxRecDepth 20000 in
theorem gX10_row_X10_isIn : GoodIn wsX10_row (va_wsS RX10 191 yX10_isIn wsX10_isIn) := goodIn_app (goodIn_of _ (by decide +kernel)) ggX10_row_X10_isIn
theorem dX10_row_0 : decode cX10_row 0 = .ok (.aload_n 0, 1) := by decide +kernel
theorem dX10_row_1 : decode cX10_row 1 = .ok (.iconst 0, 1) := by decide +kernel
theorem dX10_row_2 : decode cX10_row 2 = .ok (.putfield 106, 3) := by decide +kernel
theorem dX10_row_5 : decode cX10_row 5 = .ok (.iload_n 1, 1) := by decide +kernel
theorem dX10_row_6 : decode cX10_row 6 = .ok (.iconst 0, 1) := by decide +kernel
theorem dX10_row_7 : decode cX10_row 7 = .ok (.iconst 1, 1) := by decide +kernel
theorem dX10_row_8 : decode cX10_row 8 = .ok (.invokestatic 191, 3) := by decide +kernel
theorem dX10_row_11 : decode cX10_row 11 = .ok (.ifCond .eq 34, 3) := by decide +kernel
theorem dX10_row_14 : decode cX10_row 14 = .ok (.iload_n 2, 1) := by decide +kernel
theorem dX10_row_15 : decode cX10_row 15 = .ok (.iconst 1, 1) := by decide +kernel
theorem dX10_row_16 : decode cX10_row 16 = .ok (.bipush 99, 2) := by decide +kernel
theorem dX10_row_18 : decode cX10_row 18 = .ok (.invokestatic 191, 3) := by decide +kernel
theorem dX10_row_21 : decode cX10_row 21 = .ok (.ifCond .eq 24, 3) := by decide +kernel
theorem dX10_row_24 : decode cX10_row 24 = .ok (.iload_n 3, 1) := by decide +kernel
theorem dX10_row_25 : decode cX10_row 25 = .ok (.iconst 1, 1) := by decide +kernel
theorem dX10_row_26 : decode cX10_row 26 = .ok (.bipush 60, 2) := by decide +kernel
theorem dX10_row_28 : decode cX10_row 28 = .ok (.invokestatic 191, 3) := by decide +kernel
theorem dX10_row_31 : decode cX10_row 31 = .ok (.ifCond .eq 14, 3) := by decide +kernel
theorem dX10_row_34 : decode cX10_row 34 = .ok (.aload_n 0, 1) := by decide +kernel
theorem dX10_row_35 : decode cX10_row 35 = .ok (.getfield 86, 3) := by decide +kernel
theorem dX10_row_38 : decode cX10_row 38 = .ok (.iload_n 1, 1) := by decide +kernel
theorem dX10_row_39 : decode cX10_row 39 = .ok (.iaload, 1) := by decide +kernel
theorem dX10_row_40 : decode cX10_row 40 = .ok (.bipush 20, 2) := by decide +kernel
theorem dX10_row_42 : decode cX10_row 42 = .ok (.if_icmp .ne 5, 3) := by decide +kernel
theorem dX10_row_45 : decode cX10_row 45 = .ok (.iconst (-1), 1) := by decide +kernel
theorem dX10_row_46 : decode cX10_row 46 = .ok (.ireturn, 1) := by decide +kernel
theorem dX10_row_47 : decode cX10_row 47 = .ok (.aload_n 0, 1) := by decide +kernel
theorem dX10_row_48 : decode cX10_row 48 = .ok (.getfield 80, 3) := by decide +kernel
theorem dX10_row_51 : decode cX10_row 51 = .ok (.bipush 20, 2) := by decide +kernel
theorem dX10_row_53 : decode cX10_row 53 = .ok (.iload_n 1, 1) := by decide +kernel
theorem dX10_row_54 : decode cX10_row 54 = .ok (.imul, 1) := by decide +kernel
theorem dX10_row_55 : decode cX10_row 55 = .ok (.aload_n 0, 1) := by decide +kernel
theorem dX10_row_56 : decode cX10_row 56 = .ok (.getfield 86, 3) := by decide +kernel
theorem dX10_row_59 : decode cX10_row 59 = .ok (.iload_n 1, 1) := by decide +kernel
theorem dX10_row_60 : decode cX10_row 60 = .ok (.iaload, 1) := by decide +kernel
theorem dX10_row_61 : decode cX10_row 61 = .ok (.iadd, 1) := by decide +kernel
theorem dX10_row_62 : decode cX10_row 62 = .ok (.iload_n 2, 1) := by decide +kernel
theorem dX10_row_63 : decode cX10_row 63 = .ok (.iastore, 1) := by decide +kernel
theorem dX10_row_64 : decode cX10_row 64 = .ok (.aload_n 0, 1) := by decide +kernel
theorem dX10_row_65 : decode cX10_row 65 = .ok (.getfield 83, 3) := by decide +kernel
theorem dX10_row_68 : decode cX10_row 68 = .ok (.bipush 20, 2) := by decide +kernel
theorem dX10_row_70 : decode cX10_row 70 = .ok (.iload_n 1, 1) := by decide +kernel
theorem dX10_row_71 : decode cX10_row 71 = .ok (.imul, 1) := by decide +kernel
theorem dX10_row_72 : decode cX10_row 72 = .ok (.aload_n 0, 1) := by decide +kernel
theorem dX10_row_73 : decode cX10_row 73 = .ok (.getfield 86, 3) := by decide +kernel
theorem dX10_row_76 : decode cX10_row 76 = .ok (.iload_n 1, 1) := by decide +kernel
theorem dX10_row_77 : decode cX10_row 77 = .ok (.iaload, 1) := by decide +kernel
theorem dX10_row_78 : decode cX10_row 78 = .ok (.iadd, 1) := by decide +kernel
theorem dX10_row_79 : decode cX10_row 79 = .ok (.iload_n 3, 1) := by decide +kernel
theorem dX10_row_80 : decode cX10_row 80 = .ok (.iastore, 1) := by decide +kernel
theorem dX10_row_81 : decode cX10_row 81 = .ok (.aload_n 0, 1) := by decide +kernel
theorem dX10_row_82 : decode cX10_row 82 = .ok (.getfield 86, 3) := by decide +kernel
theorem dX10_row_85 : decode cX10_row 85 = .ok (.iload_n 1, 1) := by decide +kernel
theorem dX10_row_86 : decode cX10_row 86 = .ok (.dup2, 1) := by decide +kernel
theorem dX10_row_87 : decode cX10_row 87 = .ok (.iaload, 1) := by decide +kernel
theorem dX10_row_88 : decode cX10_row 88 = .ok (.iconst 1, 1) := by decide +kernel
theorem dX10_row_89 : decode cX10_row 89 = .ok (.iadd, 1) := by decide +kernel
theorem dX10_row_90 : decode cX10_row 90 = .ok (.iastore, 1) := by decide +kernel
theorem dX10_row_91 : decode cX10_row 91 = .ok (.aload_n 0, 1) := by decide +kernel
theorem dX10_row_92 : decode cX10_row 92 = .ok (.getfield 86, 3) := by decide +kernel
theorem dX10_row_95 : decode cX10_row 95 = .ok (.iload_n 1, 1) := by decide +kernel
theorem dX10_row_96 : decode cX10_row 96 = .ok (.iaload, 1) := by decide +kernel
theorem dX10_row_97 : decode cX10_row 97 = .ok (.iconst 1, 1) := by decide +kernel
theorem dX10_row_98 : decode cX10_row 98 = .ok (.isub, 1) := by decide +kernel
theorem dX10_row_99 : decode cX10_row 99 = .ok (.ireturn, 1) := by decide +kernel
theorem dX10_clear_0 : decode cX10_clear 0 = .ok (.aload_n 0, 1) := by decide +kernel
theorem dX10_clear_1 : decode cX10_clear 1 = .ok (.iconst 0, 1) := by decide +kernel
theorem dX10_clear_2 : decode cX10_clear 2 = .ok (.putfield 106, 3) := by decide +kernel
theorem dX10_clear_5 : decode cX10_clear 5 = .ok (.aload_n 0, 1) := by decide +kernel
theorem dX10_clear_6 : decode cX10_clear 6 = .ok (.getfield 86, 3) := by decide +kernel
theorem dX10_clear_9 : decode cX10_clear 9 = .ok (.iconst 0, 1) := by decide +kernel
theorem dX10_clear_10 : decode cX10_clear 10 = .ok (.iconst 0, 1) := by decide +kernel
theorem dX10_clear_11 : decode cX10_clear 11 = .ok (.iastore, 1) := by decide +kernel
theorem dX10_clear_12 : decode cX10_clear 12 = .ok (.aload_n 0, 1) := by decide +kernel
theorem dX10_clear_13 : decode cX10_clear 13 = .ok (.getfield 86, 3) := by decide +kernel
theorem dX10_clear_16 : decode cX10_clear 16 = .ok (.iconst 1, 1) := by decide +kernel
theorem dX10_clear_17 : decode cX10_clear 17 = .ok (.iconst 0, 1) := by decide +kernel
theorem dX10_clear_18 : decode cX10_clear 18 = .ok (.iastore, 1) := by decide +kernel
theorem dX10_clear_19 : decode cX10_clear 19 = .ok (.return_, 1) := by decide +kernel
set_option maxRecDepth 20000 in
theorem ggX10_allow_X10_isIn : GoodIn wsX10_allow wsX10_isIn := goodIn_r _ [7] (by decide +kernel) (by decide +kernel)
set_option maxRecDepth 20000 in
theorem gX10_allow_X10_isIn : GoodIn wsX10_allow (va_wsS RX10 191 yX10_isIn wsX10_isIn) := goodIn_app (goodIn_of _ (by decide +kernel)) ggX10_allow_X10_isIn
theorem dX10_allow_0 : decode cX10_allow 0 = .ok (.aload_n 0, 1) := by decide +kernel
theorem dX10_allow_1 : decode cX10_allow 1 = .ok (.iconst 0, 1) := by decide +kernel
theorem dX10_allow_2 : decode cX10_allow 2 = .ok (.putfield 106, 3) := by decide +kernel
theorem dX10_allow_5 : decode cX10_allow 5 = .ok (.iload_n 1, 1) := by decide +kernel
theorem dX10_allow_6 : decode cX10_allow 6 = .ok (.iconst 0, 1) := by decide +kernel
theorem dX10_allow_7 : decode cX10_allow 7 = .ok (.bipush 20, 2) := by decide +kernel
theorem dX10_allow_9 : decode cX10_allow 9 = .ok (.invokestatic 191, 3) := by decide +kernel
theorem dX10_allow_12 : decode cX10_allow 12 = .ok (.ifCond .eq 13, 3) := by decide +kernel
theorem dX10_allow_15 : decode cX10_allow 15 = .ok (.iload_n 2, 1) := by decide +kernel
theorem dX10_allow_16 : decode cX10_allow 16 = .ok (.iconst 0, 1) := by decide +kernel
theorem dX10_allow_17 : decode cX10_allow 17 = .ok (.bipush 20, 2) := by decide +kernel
theorem dX10_allow_19 : decode cX10_allow 19 = .ok (.invokestatic 191, 3) := by decide +kernel
theorem dX10_allow_22 : decode cX10_allow 22 = .ok (.ifCond .ne 5, 3) := by decide +kernel
theorem dX10_allow_25 : decode cX10_allow 25 = .ok (.iconst 0, 1) := by decide +kernel
theorem dX10_allow_26 : decode cX10_allow 26 = .ok (.ireturn, 1) := by decide +kernel
theorem dX10_allow_27 : decode cX10_allow 27 = .ok (.aload_n 0, 1) := by decide +kernel
theorem dX10_allow_28 : decode cX10_allow 28 = .ok (.iload_n 1, 1) := by decide +kernel
theorem dX10_allow_29 : decode cX10_allow 29 = .ok (.putfield 250, 3) := by decide +kernel
theorem dX10_allow_32 : decode cX10_allow 32 = .ok (.aload_n 0, 1) := by decide +kernel
theorem dX10_allow_33 : decode cX10_allow 33 = .ok (.iload_n 2, 1) := by decide +kernel
theorem dX10_allow_34 : decode cX10_allow 34 = .ok (.putfield 253, 3) := by decide +kernel
theorem dX10_allow_37 : decode cX10_allow 37 = .ok (.iconst 1, 1) := by decide +kernel
theorem dX10_allow_38 : decode cX10_allow 38 = .ok (.ireturn, 1) := by decide +kernel
theorem dX10_agree_0 : decode cX10_agree 0 = .ok (.aload_n 0, 1) := by decide +kernel
theorem dX10_agree_1 : decode cX10_agree 1 = .ok (.getfield 80, 3) := by decide +kernel
theorem dX10_agree_4 : decode cX10_agree 4 = .ok (.iload_n 1, 1) := by decide +kernel
theorem dX10_agree_5 : decode cX10_agree 5 = .ok (.iaload, 1) := by decide +kernel
theorem dX10_agree_6 : decode cX10_agree 6 = .ok (.aload_n 0, 1) := by decide +kernel
theorem dX10_agree_7 : decode cX10_agree 7 = .ok (.getfield 80, 3) := by decide +kernel
theorem dX10_agree_10 : decode cX10_agree 10 = .ok (.bipush 20, 2) := by decide +kernel
theorem dX10_agree_12 : decode cX10_agree 12 = .ok (.iload_n 2, 1) := by decide +kernel
theorem dX10_agree_13 : decode cX10_agree 13 = .ok (.iadd, 1) := by decide +kernel
theorem dX10_agree_14 : decode cX10_agree 14 = .ok (.iaload, 1) := by decide +kernel
theorem dX10_agree_15 : decode cX10_agree 15 = .ok (.isub, 1) := by decide +kernel
theorem dX10_agree_16 : decode cX10_agree 16 = .ok (.invokestatic 256, 3) := by decide +kernel
theorem dX10_agree_19 : decode cX10_agree 19 = .ok (.aload_n 0, 1) := by decide +kernel
theorem dX10_agree_20 : decode cX10_agree 20 = .ok (.getfield 250, 3) := by decide +kernel
theorem dX10_agree_23 : decode cX10_agree 23 = .ok (.if_icmp .gt 33, 3) := by decide +kernel
theorem dX10_agree_26 : decode cX10_agree 26 = .ok (.aload_n 0, 1) := by decide +kernel
theorem dX10_agree_27 : decode cX10_agree 27 = .ok (.getfield 83, 3) := by decide +kernel
theorem dX10_agree_30 : decode cX10_agree 30 = .ok (.iload_n 1, 1) := by decide +kernel
theorem dX10_agree_31 : decode cX10_agree 31 = .ok (.iaload, 1) := by decide +kernel
theorem dX10_agree_32 : decode cX10_agree 32 = .ok (.aload_n 0, 1) := by decide +kernel
theorem dX10_agree_33 : decode cX10_agree 33 = .ok (.getfield 83, 3) := by decide +kernel
theorem dX10_agree_36 : decode cX10_agree 36 = .ok (.bipush 20, 2) := by decide +kernel
theorem dX10_agree_38 : decode cX10_agree 38 = .ok (.iload_n 2, 1) := by decide +kernel
theorem dX10_agree_39 : decode cX10_agree 39 = .ok (.iadd, 1) := by decide +kernel
theorem dX10_agree_40 : decode cX10_agree 40 = .ok (.iaload, 1) := by decide +kernel
theorem dX10_agree_41 : decode cX10_agree 41 = .ok (.isub, 1) := by decide +kernel
theorem dX10_agree_42 : decode cX10_agree 42 = .ok (.invokestatic 256, 3) := by decide +kernel
theorem dX10_agree_45 : decode cX10_agree 45 = .ok (.aload_n 0, 1) := by decide +kernel
theorem dX10_agree_46 : decode cX10_agree 46 = .ok (.getfield 253, 3) := by decide +kernel
theorem dX10_agree_49 : decode cX10_agree 49 = .ok (.if_icmp .gt 7, 3) := by decide +kernel
theorem dX10_agree_52 : decode cX10_agree 52 = .ok (.iconst 1, 1) := by decide +kernel
theorem dX10_agree_53 : decode cX10_agree 53 = .ok (.goto 4, 3) := by decide +kernel
theorem dX10_agree_56 : decode cX10_agree 56 = .ok (.iconst 0, 1) := by decide +kernel
theorem dX10_agree_57 : decode cX10_agree 57 = .ok (.ireturn, 1) := by decide +kernel
set_option maxRecDepth 20000 in
theorem ggX10_finds_X10_agree : GoodIn wsX10_finds wsX10_agree := goodIn_r _ [9, 10, 11, 12, 13, 14, 15, 16, 17, 21, 22, 23, 24, 25, 26, 27, 28, 29, 30, 31, 32, 33, 34, 35, 36, 37, 38, 39, 40, 41, 42, 43, 44, 45, 46, 47, 48, 49, 50, 51, 52, 53, 54, 55, 56, 57, 58, 59, 60, 61, 62, 63, 64, 65, 66, 67, 68, 69, 70] (by decide +kernel) (by decide +kernel)
set_option maxRecDepth 20000 in
theorem gX10_finds_X10_agree : GoodIn wsX10_finds (wsV RX10 259 RX10 yX10_agree wsX10_agree) := goodIn_app (goodIn_of _ (by decide +kernel)) ggX10_finds_X10_agree
set_option maxRecDepth 20000 in
theorem ggX10_finds_X10_finds : GoodIn wsX10_finds wsX10_finds := goodIn_r _ [0, 1, 2, 3, 4, 5, 6, 7, 8, 9, 10, 11, 12, 13, 14, 15, 16, 17, 18, 19, 20, 21, 22, 23, 24, 25, 26, 27, 28, 29, 30, 31, 32, 33, 34, 35, 36, 37, 38, 39, 40, 41, 42, 43, 44, 45, 46, 47, 48, 49, 50, 51, 52, 53, 54, 55, 56, 57, 58, 59, 60, 61, 62, 63, 64, 65, 66, 67, 68, 69, 70] (by decide +kernel) (by decide +kernel)
set_option maxRecDepth 20000 in
theorem gX10_finds_X10_finds : GoodIn wsX10_finds (wsV RX10 263 RX10 yX10_finds wsX10_finds) := goodIn_app (goodIn_of _ (by decide +kernel)) ggX10_finds_X10_finds
theorem dX10_finds_0 : decode cX10_finds 0 = .ok (.iconst 0, 1) := by decide +kernel
theorem dX10_finds_1 : decode cX10_finds 1 = .ok (.istore_n 2, 1) := by decide +kernel
theorem dX10_finds_2 : decode cX10_finds 2 = .ok (.iload_n 2, 1) := by decide +kernel
theorem dX10_finds_3 : decode cX10_finds 3 = .ok (.aload_n 0, 1) := by decide +kernel
theorem dX10_finds_4 : decode cX10_finds 4 = .ok (.getfield 86, 3) := by decide +kernel
theorem dX10_finds_7 : decode cX10_finds 7 = .ok (.iconst 1, 1) := by decide +kernel
theorem dX10_finds_8 : decode cX10_finds 8 = .ok (.iaload, 1) := by decide +kernel
theorem dX10_finds_9 : decode cX10_finds 9 = .ok (.if_icmp .ge 78, 3) := by decide +kernel
theorem dX10_finds_12 : decode cX10_finds 12 = .ok (.aload_n 0, 1) := by decide +kernel
theorem dX10_finds_13 : decode cX10_finds 13 = .ok (.getfield 92, 3) := by decide +kernel
theorem dX10_finds_16 : decode cX10_finds 16 = .ok (.iload_n 2, 1) := by decide +kernel
theorem dX10_finds_17 : decode cX10_finds 17 = .ok (.baload, 1) := by decide +kernel
theorem dX10_finds_18 : decode cX10_finds 18 = .ok (.ifCond .ne 63, 3) := by decide +kernel
theorem dX10_finds_21 : decode cX10_finds 21 = .ok (.aload_n 0, 1) := by decide +kernel
theorem dX10_finds_22 : decode cX10_finds 22 = .ok (.getfield 96, 3) := by decide +kernel
theorem dX10_finds_25 : decode cX10_finds 25 = .ok (.iload_n 2, 1) := by decide +kernel
theorem dX10_finds_26 : decode cX10_finds 26 = .ok (.baload, 1) := by decide +kernel
theorem dX10_finds_27 : decode cX10_finds 27 = .ok (.ifCond .ne 54, 3) := by decide +kernel
theorem dX10_finds_30 : decode cX10_finds 30 = .ok (.aload_n 0, 1) := by decide +kernel
theorem dX10_finds_31 : decode cX10_finds 31 = .ok (.iload_n 1, 1) := by decide +kernel
theorem dX10_finds_32 : decode cX10_finds 32 = .ok (.iload_n 2, 1) := by decide +kernel
theorem dX10_finds_33 : decode cX10_finds 33 = .ok (.invokevirtual 259, 3) := by decide +kernel
theorem dX10_finds_36 : decode cX10_finds 36 = .ok (.ifCond .ne 6, 3) := by decide +kernel
theorem dX10_finds_39 : decode cX10_finds 39 = .ok (.goto 42, 3) := by decide +kernel
theorem dX10_finds_42 : decode cX10_finds 42 = .ok (.aload_n 0, 1) := by decide +kernel
theorem dX10_finds_43 : decode cX10_finds 43 = .ok (.getfield 96, 3) := by decide +kernel
theorem dX10_finds_46 : decode cX10_finds 46 = .ok (.iload_n 2, 1) := by decide +kernel
theorem dX10_finds_47 : decode cX10_finds 47 = .ok (.iconst 1, 1) := by decide +kernel
theorem dX10_finds_48 : decode cX10_finds 48 = .ok (.bastore, 1) := by decide +kernel
theorem dX10_finds_49 : decode cX10_finds 49 = .ok (.aload_n 0, 1) := by decide +kernel
theorem dX10_finds_50 : decode cX10_finds 50 = .ok (.getfield 89, 3) := by decide +kernel
theorem dX10_finds_53 : decode cX10_finds 53 = .ok (.iload_n 2, 1) := by decide +kernel
theorem dX10_finds_54 : decode cX10_finds 54 = .ok (.iaload, 1) := by decide +kernel
theorem dX10_finds_55 : decode cX10_finds 55 = .ok (.iconst (-1), 1) := by decide +kernel
theorem dX10_finds_56 : decode cX10_finds 56 = .ok (.if_icmp .eq 16, 3) := by decide +kernel
theorem dX10_finds_59 : decode cX10_finds 59 = .ok (.aload_n 0, 1) := by decide +kernel
theorem dX10_finds_60 : decode cX10_finds 60 = .ok (.aload_n 0, 1) := by decide +kernel
theorem dX10_finds_61 : decode cX10_finds 61 = .ok (.getfield 89, 3) := by decide +kernel
theorem dX10_finds_64 : decode cX10_finds 64 = .ok (.iload_n 2, 1) := by decide +kernel
theorem dX10_finds_65 : decode cX10_finds 65 = .ok (.iaload, 1) := by decide +kernel
theorem dX10_finds_66 : decode cX10_finds 66 = .ok (.invokevirtual 263, 3) := by decide +kernel
theorem dX10_finds_69 : decode cX10_finds 69 = .ok (.ifCond .eq 12, 3) := by decide +kernel
theorem dX10_finds_72 : decode cX10_finds 72 = .ok (.aload_n 0, 1) := by decide +kernel
theorem dX10_finds_73 : decode cX10_finds 73 = .ok (.getfield 89, 3) := by decide +kernel
theorem dX10_finds_76 : decode cX10_finds 76 = .ok (.iload_n 2, 1) := by decide +kernel
theorem dX10_finds_77 : decode cX10_finds 77 = .ok (.iload_n 1, 1) := by decide +kernel
theorem dX10_finds_78 : decode cX10_finds 78 = .ok (.iastore, 1) := by decide +kernel
theorem dX10_finds_79 : decode cX10_finds 79 = .ok (.iconst 1, 1) := by decide +kernel
theorem dX10_finds_80 : decode cX10_finds 80 = .ok (.ireturn, 1) := by decide +kernel
theorem dX10_finds_81 : decode cX10_finds 81 = .ok (.iinc 2 1, 3) := by decide +kernel
theorem dX10_finds_84 : decode cX10_finds 84 = .ok (.goto (-82), 3) := by decide +kernel
theorem dX10_finds_87 : decode cX10_finds 87 = .ok (.iconst 0, 1) := by decide +kernel
theorem dX10_finds_88 : decode cX10_finds 88 = .ok (.ireturn, 1) := by decide +kernel
set_option maxRecDepth 20000 in
theorem ggX10_mostFrom_X10_finds : GoodIn wsX10_mostFrom wsX10_finds := goodIn_r _ [8, 1, 9, 3, 2, 10, 11, 12, 7, 13, 14, 15, 16, 17, 18, 19, 20, 21, 4, 5, 6, 22, 23, 24, 25, 26, 27, 28, 29, 30, 31, 32, 33, 34, 35, 36, 37, 38, 39, 40, 41, 42, 43, 44, 45, 46, 47, 48, 49, 50, 51, 52, 53, 54, 55, 56, 57, 58, 59, 60, 61, 62, 63, 64, 65, 66, 67, 68, 69, 70, 71] (by decide +kernel) (by decide +kernel)
set_option maxRecDepth 20000 in
theorem gX10_mostFrom_X10_finds : GoodIn wsX10_mostFrom (wsV RX10 263 RX10 yX10_finds wsX10_finds) := goodIn_app (goodIn_of _ (by decide +kernel)) ggX10_mostFrom_X10_finds
theorem dX10_mostFrom_0 : decode cX10_mostFrom 0 = .ok (.iconst 0, 1) := by decide +kernel
theorem dX10_mostFrom_1 : decode cX10_mostFrom 1 = .ok (.istore_n 2, 1) := by decide +kernel
theorem dX10_mostFrom_2 : decode cX10_mostFrom 2 = .ok (.iload_n 2, 1) := by decide +kernel
theorem dX10_mostFrom_3 : decode cX10_mostFrom 3 = .ok (.aload_n 0, 1) := by decide +kernel
theorem dX10_mostFrom_4 : decode cX10_mostFrom 4 = .ok (.getfield 86, 3) := by decide +kernel
theorem dX10_mostFrom_7 : decode cX10_mostFrom 7 = .ok (.iconst 1, 1) := by decide +kernel
theorem dX10_mostFrom_8 : decode cX10_mostFrom 8 = .ok (.iaload, 1) := by decide +kernel
theorem dX10_mostFrom_9 : decode cX10_mostFrom 9 = .ok (.if_icmp .ge 16, 3) := by decide +kernel
theorem dX10_mostFrom_12 : decode cX10_mostFrom 12 = .ok (.aload_n 0, 1) := by decide +kernel
theorem dX10_mostFrom_13 : decode cX10_mostFrom 13 = .ok (.getfield 89, 3) := by decide +kernel
theorem dX10_mostFrom_16 : decode cX10_mostFrom 16 = .ok (.iload_n 2, 1) := by decide +kernel
theorem dX10_mostFrom_17 : decode cX10_mostFrom 17 = .ok (.iconst (-1), 1) := by decide +kernel
theorem dX10_mostFrom_18 : decode cX10_mostFrom 18 = .ok (.iastore, 1) := by decide +kernel
theorem dX10_mostFrom_19 : decode cX10_mostFrom 19 = .ok (.iinc 2 1, 3) := by decide +kernel
theorem dX10_mostFrom_22 : decode cX10_mostFrom 22 = .ok (.goto (-20), 3) := by decide +kernel
theorem dX10_mostFrom_25 : decode cX10_mostFrom 25 = .ok (.iconst 0, 1) := by decide +kernel
theorem dX10_mostFrom_26 : decode cX10_mostFrom 26 = .ok (.istore_n 2, 1) := by decide +kernel
theorem dX10_mostFrom_27 : decode cX10_mostFrom 27 = .ok (.iload_n 1, 1) := by decide +kernel
theorem dX10_mostFrom_28 : decode cX10_mostFrom 28 = .ok (.istore_n 3, 1) := by decide +kernel
theorem dX10_mostFrom_29 : decode cX10_mostFrom 29 = .ok (.iload_n 3, 1) := by decide +kernel
theorem dX10_mostFrom_30 : decode cX10_mostFrom 30 = .ok (.aload_n 0, 1) := by decide +kernel
theorem dX10_mostFrom_31 : decode cX10_mostFrom 31 = .ok (.getfield 86, 3) := by decide +kernel
theorem dX10_mostFrom_34 : decode cX10_mostFrom 34 = .ok (.iconst 0, 1) := by decide +kernel
theorem dX10_mostFrom_35 : decode cX10_mostFrom 35 = .ok (.iaload, 1) := by decide +kernel
theorem dX10_mostFrom_36 : decode cX10_mostFrom 36 = .ok (.if_icmp .ge 53, 3) := by decide +kernel
theorem dX10_mostFrom_39 : decode cX10_mostFrom 39 = .ok (.iconst 0, 1) := by decide +kernel
theorem dX10_mostFrom_40 : decode cX10_mostFrom 40 = .ok (.istore 4, 2) := by decide +kernel
theorem dX10_mostFrom_42 : decode cX10_mostFrom 42 = .ok (.iload 4, 2) := by decide +kernel
theorem dX10_mostFrom_44 : decode cX10_mostFrom 44 = .ok (.aload_n 0, 1) := by decide +kernel
theorem dX10_mostFrom_45 : decode cX10_mostFrom 45 = .ok (.getfield 86, 3) := by decide +kernel
theorem dX10_mostFrom_48 : decode cX10_mostFrom 48 = .ok (.iconst 1, 1) := by decide +kernel
theorem dX10_mostFrom_49 : decode cX10_mostFrom 49 = .ok (.iaload, 1) := by decide +kernel
theorem dX10_mostFrom_50 : decode cX10_mostFrom 50 = .ok (.if_icmp .ge 17, 3) := by decide +kernel
theorem dX10_mostFrom_53 : decode cX10_mostFrom 53 = .ok (.aload_n 0, 1) := by decide +kernel
theorem dX10_mostFrom_54 : decode cX10_mostFrom 54 = .ok (.getfield 96, 3) := by decide +kernel
theorem dX10_mostFrom_57 : decode cX10_mostFrom 57 = .ok (.iload 4, 2) := by decide +kernel
theorem dX10_mostFrom_59 : decode cX10_mostFrom 59 = .ok (.iconst 0, 1) := by decide +kernel
theorem dX10_mostFrom_60 : decode cX10_mostFrom 60 = .ok (.bastore, 1) := by decide +kernel
theorem dX10_mostFrom_61 : decode cX10_mostFrom 61 = .ok (.iinc 4 1, 3) := by decide +kernel
theorem dX10_mostFrom_64 : decode cX10_mostFrom 64 = .ok (.goto (-22), 3) := by decide +kernel
theorem dX10_mostFrom_67 : decode cX10_mostFrom 67 = .ok (.iload_n 2, 1) := by decide +kernel
theorem dX10_mostFrom_68 : decode cX10_mostFrom 68 = .ok (.aload_n 0, 1) := by decide +kernel
theorem dX10_mostFrom_69 : decode cX10_mostFrom 69 = .ok (.iload_n 3, 1) := by decide +kernel
theorem dX10_mostFrom_70 : decode cX10_mostFrom 70 = .ok (.invokevirtual 263, 3) := by decide +kernel
theorem dX10_mostFrom_73 : decode cX10_mostFrom 73 = .ok (.ifCond .eq 7, 3) := by decide +kernel
theorem dX10_mostFrom_76 : decode cX10_mostFrom 76 = .ok (.iconst 1, 1) := by decide +kernel
theorem dX10_mostFrom_77 : decode cX10_mostFrom 77 = .ok (.goto 4, 3) := by decide +kernel
theorem dX10_mostFrom_80 : decode cX10_mostFrom 80 = .ok (.iconst 0, 1) := by decide +kernel
theorem dX10_mostFrom_81 : decode cX10_mostFrom 81 = .ok (.iadd, 1) := by decide +kernel
theorem dX10_mostFrom_82 : decode cX10_mostFrom 82 = .ok (.istore_n 2, 1) := by decide +kernel
theorem dX10_mostFrom_83 : decode cX10_mostFrom 83 = .ok (.iinc 3 1, 3) := by decide +kernel
theorem dX10_mostFrom_86 : decode cX10_mostFrom 86 = .ok (.goto (-57), 3) := by decide +kernel
theorem dX10_mostFrom_89 : decode cX10_mostFrom 89 = .ok (.iload_n 2, 1) := by decide +kernel
theorem dX10_mostFrom_90 : decode cX10_mostFrom 90 = .ok (.ireturn, 1) := by decide +kernel
theorem dX10_free_0 : decode cX10_free 0 = .ok (.iconst 0, 1) := by decide +kernel
theorem dX10_free_1 : decode cX10_free 1 = .ok (.istore_n 1, 1) := by decide +kernel
theorem dX10_free_2 : decode cX10_free 2 = .ok (.iload_n 1, 1) := by decide +kernel
theorem dX10_free_3 : decode cX10_free 3 = .ok (.bipush 20, 2) := by decide +kernel
theorem dX10_free_5 : decode cX10_free 5 = .ok (.if_icmp .ge 16, 3) := by decide +kernel
theorem dX10_free_8 : decode cX10_free 8 = .ok (.aload_n 0, 1) := by decide +kernel
theorem dX10_free_9 : decode cX10_free 9 = .ok (.getfield 92, 3) := by decide +kernel
theorem dX10_free_12 : decode cX10_free 12 = .ok (.iload_n 1, 1) := by decide +kernel
theorem dX10_free_13 : decode cX10_free 13 = .ok (.iconst 0, 1) := by decide +kernel
theorem dX10_free_14 : decode cX10_free 14 = .ok (.bastore, 1) := by decide +kernel
theorem dX10_free_15 : decode cX10_free 15 = .ok (.iinc 1 1, 3) := by decide +kernel
theorem dX10_free_18 : decode cX10_free 18 = .ok (.goto (-16), 3) := by decide +kernel
theorem dX10_free_21 : decode cX10_free 21 = .ok (.return_, 1) := by decide +kernel
set_option maxRecDepth 20000 in
theorem ggX10_pairs_X10_free : GoodIn wsX10_pairs wsX10_free := goodIn_r _ [6, 7, 31, 32, 33, 34, 35, 36, 37, 38, 39, 40, 41, 42, 43, 44, 45, 46, 47, 48, 49, 50, 51, 52, 53, 54, 55, 56, 57, 58, 59, 60, 61, 62, 63, 64, 65, 66, 67, 68, 69, 70, 71, 72, 73, 74, 75, 76, 77, 78, 79, 80] (by decide +kernel) (by decide +kernel)
set_option maxRecDepth 20000 in
theorem gX10_pairs_X10_free : GoodIn wsX10_pairs (wsV RX10 266 RX10 yX10_free wsX10_free) := goodIn_app (goodIn_of _ (by decide +kernel)) ggX10_pairs_X10_free
set_option maxRecDepth 20000 in
theorem ggX10_pairs_X10_mostFrom : GoodIn wsX10_pairs wsX10_mostFrom := goodIn_r _ [11, 12, 13, 14, 15, 16, 17, 5, 18, 7, 19, 20, 21, 22, 23, 24, 25, 26, 27, 28, 29, 30, 31, 32, 33, 34, 35, 36, 37, 38, 39, 40, 41, 42, 43, 44, 45, 46, 47, 48, 49, 50, 51, 52, 53, 54, 55, 56, 57, 58, 59, 60, 61, 62, 63, 64, 65, 66, 67, 68, 69, 70, 71, 72, 73, 74, 75, 76, 77, 78, 79, 80] (by decide +kernel) (by decide +kernel)
set_option maxRecDepth 20000 in
theorem gX10_pairs_X10_mostFrom : GoodIn wsX10_pairs (wsV RX10 269 RX10 yX10_mostFrom wsX10_mostFrom) := goodIn_app (goodIn_of _ (by decide +kernel)) ggX10_pairs_X10_mostFrom
theorem dX10_pairs_0 : decode cX10_pairs 0 = .ok (.aload_n 0, 1) := by decide +kernel
theorem dX10_pairs_1 : decode cX10_pairs 1 = .ok (.iconst 0, 1) := by decide +kernel
theorem dX10_pairs_2 : decode cX10_pairs 2 = .ok (.putfield 106, 3) := by decide +kernel
theorem dX10_pairs_5 : decode cX10_pairs 5 = .ok (.aload_n 0, 1) := by decide +kernel
theorem dX10_pairs_6 : decode cX10_pairs 6 = .ok (.invokevirtual 266, 3) := by decide +kernel
theorem dX10_pairs_9 : decode cX10_pairs 9 = .ok (.aload_n 0, 1) := by decide +kernel
theorem dX10_pairs_10 : decode cX10_pairs 10 = .ok (.iconst 0, 1) := by decide +kernel
theorem dX10_pairs_11 : decode cX10_pairs 11 = .ok (.invokevirtual 269, 3) := by decide +kernel
theorem dX10_pairs_14 : decode cX10_pairs 14 = .ok (.ireturn, 1) := by decide +kernel
set_option maxRecDepth 20000 in
theorem ggX10_pair_X10_isIn : GoodIn wsX10_pair wsX10_isIn := goodIn_r _ [7] (by decide +kernel) (by decide +kernel)
set_option maxRecDepth 20000 in
theorem gX10_pair_X10_isIn : GoodIn wsX10_pair (va_wsS RX10 191 yX10_isIn wsX10_isIn) := goodIn_app (goodIn_of _ (by decide +kernel)) ggX10_pair_X10_isIn
set_option maxRecDepth 20000 in
theorem ggX10_pair_X10_free : GoodIn wsX10_pair wsX10_free := goodIn_r _ [11, 3, 34, 35, 36, 37, 38, 39, 40, 41, 42, 43, 44, 45, 46, 47, 48, 49, 50, 51, 52, 53, 54, 55, 56, 57, 58, 59, 60, 61, 62, 63, 64, 65, 66, 67, 68, 69, 70, 71, 72, 73, 74, 75, 76, 77, 78, 79, 80, 81, 82, 83] (by decide +kernel) (by decide +kernel)
set_option maxRecDepth 20000 in
theorem gX10_pair_X10_free : GoodIn wsX10_pair (wsV RX10 266 RX10 yX10_free wsX10_free) := goodIn_app (goodIn_of _ (by decide +kernel)) ggX10_pair_X10_free
set_option maxRecDepth 20000 in
theorem ggX10_pair_X10_mostFrom : GoodIn wsX10_pair wsX10_mostFrom := goodIn_r _ [15, 2, 16, 17, 18, 19, 20, 6, 21, 3, 22, 23, 24, 25, 26, 27, 28, 29, 30, 31, 32, 33, 34, 35, 36, 37, 38, 39, 40, 41, 42, 43, 44, 45, 46, 47, 48, 49, 50, 51, 52, 53, 54, 55, 56, 57, 58, 59, 60, 61, 62, 63, 64, 65, 66, 67, 68, 69, 70, 71, 72, 73, 74, 75, 76, 77, 78, 79, 80, 81, 82, 83] (by decide +kernel) (by decide +kernel)
set_option maxRecDepth 20000 in
theorem gX10_pair_X10_mostFrom : GoodIn wsX10_pair (wsV RX10 269 RX10 yX10_mostFrom wsX10_mostFrom) := goodIn_app (goodIn_of _ (by decide +kernel)) ggX10_pair_X10_mostFrom
set_option maxRecDepth 20000 in
theorem ggX10_pair_X10_agree : GoodIn wsX10_pair wsX10_agree := goodIn_r _ [25, 26, 27, 28, 29, 30, 31, 32, 33, 34, 35, 36, 37, 38, 39, 40, 41, 42, 43, 44, 45, 46, 47, 48, 49, 50, 51, 52, 53, 54, 55, 56, 57, 58, 59, 60, 61, 62, 63, 64, 65, 66, 67, 68, 69, 70, 71, 72, 73, 74, 75, 76, 77, 78, 79, 80, 81, 82, 83] (by decide +kernel) (by decide +kernel)
set_option maxRecDepth 20000 in
theorem gX10_pair_X10_agree : GoodIn wsX10_pair (wsV RX10 259 RX10 yX10_agree wsX10_agree) := goodIn_app (goodIn_of _ (by decide +kernel)) ggX10_pair_X10_agree
theorem dX10_pair_0 : decode cX10_pair 0 = .ok (.aload_n 0, 1) := by decide +kernel
theorem dX10_pair_1 : decode cX10_pair 1 = .ok (.iconst 0, 1) := by decide +kernel
theorem dX10_pair_2 : decode cX10_pair 2 = .ok (.putfield 106, 3) := by decide +kernel
theorem dX10_pair_5 : decode cX10_pair 5 = .ok (.iload_n 1, 1) := by decide +kernel
theorem dX10_pair_6 : decode cX10_pair 6 = .ok (.iconst 0, 1) := by decide +kernel
theorem dX10_pair_7 : decode cX10_pair 7 = .ok (.aload_n 0, 1) := by decide +kernel
theorem dX10_pair_8 : decode cX10_pair 8 = .ok (.getfield 86, 3) := by decide +kernel
theorem dX10_pair_11 : decode cX10_pair 11 = .ok (.iconst 0, 1) := by decide +kernel
theorem dX10_pair_12 : decode cX10_pair 12 = .ok (.iaload, 1) := by decide +kernel
theorem dX10_pair_13 : decode cX10_pair 13 = .ok (.iconst 1, 1) := by decide +kernel
theorem dX10_pair_14 : decode cX10_pair 14 = .ok (.isub, 1) := by decide +kernel
theorem dX10_pair_15 : decode cX10_pair 15 = .ok (.invokestatic 191, 3) := by decide +kernel
theorem dX10_pair_18 : decode cX10_pair 18 = .ok (.ifCond .ne 5, 3) := by decide +kernel
theorem dX10_pair_21 : decode cX10_pair 21 = .ok (.iconst (-1), 1) := by decide +kernel
theorem dX10_pair_22 : decode cX10_pair 22 = .ok (.ireturn, 1) := by decide +kernel
theorem dX10_pair_23 : decode cX10_pair 23 = .ok (.aload_n 0, 1) := by decide +kernel
theorem dX10_pair_24 : decode cX10_pair 24 = .ok (.invokevirtual 266, 3) := by decide +kernel
theorem dX10_pair_27 : decode cX10_pair 27 = .ok (.aload_n 0, 1) := by decide +kernel
theorem dX10_pair_28 : decode cX10_pair 28 = .ok (.iconst 0, 1) := by decide +kernel
theorem dX10_pair_29 : decode cX10_pair 29 = .ok (.invokevirtual 269, 3) := by decide +kernel
theorem dX10_pair_32 : decode cX10_pair 32 = .ok (.istore_n 2, 1) := by decide +kernel
theorem dX10_pair_33 : decode cX10_pair 33 = .ok (.iconst 0, 1) := by decide +kernel
theorem dX10_pair_34 : decode cX10_pair 34 = .ok (.istore_n 3, 1) := by decide +kernel
theorem dX10_pair_35 : decode cX10_pair 35 = .ok (.iload_n 3, 1) := by decide +kernel
theorem dX10_pair_36 : decode cX10_pair 36 = .ok (.iload_n 1, 1) := by decide +kernel
theorem dX10_pair_37 : decode cX10_pair 37 = .ok (.if_icmp .gt 114, 3) := by decide +kernel
theorem dX10_pair_40 : decode cX10_pair 40 = .ok (.iconst (-1), 1) := by decide +kernel
theorem dX10_pair_41 : decode cX10_pair 41 = .ok (.istore 4, 2) := by decide +kernel
theorem dX10_pair_43 : decode cX10_pair 43 = .ok (.iconst 0, 1) := by decide +kernel
theorem dX10_pair_44 : decode cX10_pair 44 = .ok (.istore 5, 2) := by decide +kernel
theorem dX10_pair_46 : decode cX10_pair 46 = .ok (.iload 5, 2) := by decide +kernel
theorem dX10_pair_48 : decode cX10_pair 48 = .ok (.aload_n 0, 1) := by decide +kernel
theorem dX10_pair_49 : decode cX10_pair 49 = .ok (.getfield 86, 3) := by decide +kernel
theorem dX10_pair_52 : decode cX10_pair 52 = .ok (.iconst 1, 1) := by decide +kernel
theorem dX10_pair_53 : decode cX10_pair 53 = .ok (.iaload, 1) := by decide +kernel
theorem dX10_pair_54 : decode cX10_pair 54 = .ok (.if_icmp .ge 74, 3) := by decide +kernel
theorem dX10_pair_57 : decode cX10_pair 57 = .ok (.iload 4, 2) := by decide +kernel
theorem dX10_pair_59 : decode cX10_pair 59 = .ok (.iconst (-1), 1) := by decide +kernel
theorem dX10_pair_60 : decode cX10_pair 60 = .ok (.if_icmp .ne 68, 3) := by decide +kernel
theorem dX10_pair_63 : decode cX10_pair 63 = .ok (.aload_n 0, 1) := by decide +kernel
theorem dX10_pair_64 : decode cX10_pair 64 = .ok (.getfield 92, 3) := by decide +kernel
theorem dX10_pair_67 : decode cX10_pair 67 = .ok (.iload 5, 2) := by decide +kernel
theorem dX10_pair_69 : decode cX10_pair 69 = .ok (.baload, 1) := by decide +kernel
theorem dX10_pair_70 : decode cX10_pair 70 = .ok (.ifCond .ne 52, 3) := by decide +kernel
theorem dX10_pair_73 : decode cX10_pair 73 = .ok (.aload_n 0, 1) := by decide +kernel
theorem dX10_pair_74 : decode cX10_pair 74 = .ok (.iload_n 3, 1) := by decide +kernel
theorem dX10_pair_75 : decode cX10_pair 75 = .ok (.iload 5, 2) := by decide +kernel
theorem dX10_pair_77 : decode cX10_pair 77 = .ok (.invokevirtual 259, 3) := by decide +kernel
theorem dX10_pair_80 : decode cX10_pair 80 = .ok (.ifCond .ne 6, 3) := by decide +kernel
theorem dX10_pair_83 : decode cX10_pair 83 = .ok (.goto 39, 3) := by decide +kernel
theorem dX10_pair_86 : decode cX10_pair 86 = .ok (.aload_n 0, 1) := by decide +kernel
theorem dX10_pair_87 : decode cX10_pair 87 = .ok (.getfield 92, 3) := by decide +kernel
theorem dX10_pair_90 : decode cX10_pair 90 = .ok (.iload 5, 2) := by decide +kernel
theorem dX10_pair_92 : decode cX10_pair 92 = .ok (.iconst 1, 1) := by decide +kernel
theorem dX10_pair_93 : decode cX10_pair 93 = .ok (.bastore, 1) := by decide +kernel
theorem dX10_pair_94 : decode cX10_pair 94 = .ok (.aload_n 0, 1) := by decide +kernel
theorem dX10_pair_95 : decode cX10_pair 95 = .ok (.iload_n 3, 1) := by decide +kernel
theorem dX10_pair_96 : decode cX10_pair 96 = .ok (.iconst 1, 1) := by decide +kernel
theorem dX10_pair_97 : decode cX10_pair 97 = .ok (.iadd, 1) := by decide +kernel
theorem dX10_pair_98 : decode cX10_pair 98 = .ok (.invokevirtual 269, 3) := by decide +kernel
theorem dX10_pair_101 : decode cX10_pair 101 = .ok (.iload_n 2, 1) := by decide +kernel
theorem dX10_pair_102 : decode cX10_pair 102 = .ok (.iconst 1, 1) := by decide +kernel
theorem dX10_pair_103 : decode cX10_pair 103 = .ok (.isub, 1) := by decide +kernel
theorem dX10_pair_104 : decode cX10_pair 104 = .ok (.if_icmp .ne 10, 3) := by decide +kernel
theorem dX10_pair_107 : decode cX10_pair 107 = .ok (.iload 5, 2) := by decide +kernel
theorem dX10_pair_109 : decode cX10_pair 109 = .ok (.istore 4, 2) := by decide +kernel
theorem dX10_pair_111 : decode cX10_pair 111 = .ok (.goto 11, 3) := by decide +kernel
theorem dX10_pair_114 : decode cX10_pair 114 = .ok (.aload_n 0, 1) := by decide +kernel
theorem dX10_pair_115 : decode cX10_pair 115 = .ok (.getfield 92, 3) := by decide +kernel
theorem dX10_pair_118 : decode cX10_pair 118 = .ok (.iload 5, 2) := by decide +kernel
theorem dX10_pair_120 : decode cX10_pair 120 = .ok (.iconst 0, 1) := by decide +kernel
theorem dX10_pair_121 : decode cX10_pair 121 = .ok (.bastore, 1) := by decide +kernel
theorem dX10_pair_122 : decode cX10_pair 122 = .ok (.iinc 5 1, 3) := by decide +kernel
theorem dX10_pair_125 : decode cX10_pair 125 = .ok (.goto (-79), 3) := by decide +kernel
theorem dX10_pair_128 : decode cX10_pair 128 = .ok (.iload 4, 2) := by decide +kernel
theorem dX10_pair_130 : decode cX10_pair 130 = .ok (.iconst (-1), 1) := by decide +kernel
theorem dX10_pair_131 : decode cX10_pair 131 = .ok (.if_icmp .eq 6, 3) := by decide +kernel
theorem dX10_pair_134 : decode cX10_pair 134 = .ok (.iinc 2 (-1), 3) := by decide +kernel
theorem dX10_pair_137 : decode cX10_pair 137 = .ok (.iload_n 3, 1) := by decide +kernel
