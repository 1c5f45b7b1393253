theorem dX0_init_0 : decode cX0_init 0 = .ok (.aload_n 0, 1) := by decide +kernel
theorem dX0_init_1 : decode cX0_init 1 = .ok (.invokespecial 3, 3) := by decide +kernel
theorem dX0_init_4 : decode cX0_init 4 = .ok (.aload_n 0, 1) := by decide +kernel
theorem dX0_init_5 : decode cX0_init 5 = .ok (.iconst 3, 1) := by decide +kernel
theorem dX0_init_6 : decode cX0_init 6 = .ok (.putfield 9, 3) := by decide +kernel
theorem dX0_init_9 : decode cX0_init 9 = .ok (.aload_n 0, 1) := by decide +kernel
theorem dX0_init_10 : decode cX0_init 10 = .ok (.iconst (-1), 1) := by decide +kernel
theorem dX0_init_11 : decode cX0_init 11 = .ok (.putfield 15, 3) := by decide +kernel
theorem dX0_init_14 : decode cX0_init 14 = .ok (.aload_n 0, 1) := by decide +kernel
theorem dX0_init_15 : decode cX0_init 15 = .ok (.iconst 0, 1) := by decide +kernel
theorem dX0_init_16 : decode cX0_init 16 = .ok (.putfield 18, 3) := by decide +kernel
theorem dX0_init_19 : decode cX0_init 19 = .ok (.aload_n 0, 1) := by decide +kernel
theorem dX0_init_20 : decode cX0_init 20 = .ok (.iconst 0, 1) := by decide +kernel
theorem dX0_init_21 : decode cX0_init 21 = .ok (.putfield 21, 3) := by decide +kernel
theorem dX0_init_24 : decode cX0_init 24 = .ok (.return_, 1) := by decide +kernel
set_option maxRecDepth 20000 in
theorem ggX0_decide_X0_isNear : GoodIn wsX0_decide wsX0_isNear := goodIn_r _ [8, 9, 10, 11, 12, 13, 14, 15, 16, 17] (by decide +kernel) (by decide +kernel)
set_option maxRecDepth 20000 in
theorem gX0_decide_X0_isNear : GoodIn wsX0_decide (wsV RX0 24 RX0 yX0_isNear wsX0_isNear) := goodIn_app (goodIn_of _ (by decide +kernel)) ggX0_decide_X0_isNear
theorem dX0_decide_0 : decode cX0_decide 0 = .ok (.aload_n 0, 1) := by decide +kernel
theorem dX0_decide_1 : decode cX0_decide 1 = .ok (.iload_n 1, 1) := by decide +kernel
theorem dX0_decide_2 : decode cX0_decide 2 = .ok (.iload_n 3, 1) := by decide +kernel
theorem dX0_decide_3 : decode cX0_decide 3 = .ok (.invokevirtual 24, 3) := by decide +kernel
theorem dX0_decide_6 : decode cX0_decide 6 = .ok (.istore 4, 2) := by decide +kernel
theorem dX0_decide_8 : decode cX0_decide 8 = .ok (.aload_n 0, 1) := by decide +kernel
theorem dX0_decide_9 : decode cX0_decide 9 = .ok (.iload_n 2, 1) := by decide +kernel
theorem dX0_decide_10 : decode cX0_decide 10 = .ok (.iload_n 3, 1) := by decide +kernel
theorem dX0_decide_11 : decode cX0_decide 11 = .ok (.invokevirtual 24, 3) := by decide +kernel
theorem dX0_decide_14 : decode cX0_decide 14 = .ok (.istore 5, 2) := by decide +kernel
theorem dX0_decide_16 : decode cX0_decide 16 = .ok (.iload 4, 2) := by decide +kernel
theorem dX0_decide_18 : decode cX0_decide 18 = .ok (.ifCond .ne 13, 3) := by decide +kernel
theorem dX0_decide_21 : decode cX0_decide 21 = .ok (.aload_n 0, 1) := by decide +kernel
theorem dX0_decide_22 : decode cX0_decide 22 = .ok (.dup, 1) := by decide +kernel
theorem dX0_decide_23 : decode cX0_decide 23 = .ok (.getfield 18, 3) := by decide +kernel
theorem dX0_decide_26 : decode cX0_decide 26 = .ok (.iconst 1, 1) := by decide +kernel
theorem dX0_decide_27 : decode cX0_decide 27 = .ok (.iadd, 1) := by decide +kernel
theorem dX0_decide_28 : decode cX0_decide 28 = .ok (.putfield 18, 3) := by decide +kernel
theorem dX0_decide_31 : decode cX0_decide 31 = .ok (.iload 5, 2) := by decide +kernel
theorem dX0_decide_33 : decode cX0_decide 33 = .ok (.ifCond .ne 13, 3) := by decide +kernel
theorem dX0_decide_36 : decode cX0_decide 36 = .ok (.aload_n 0, 1) := by decide +kernel
theorem dX0_decide_37 : decode cX0_decide 37 = .ok (.dup, 1) := by decide +kernel
theorem dX0_decide_38 : decode cX0_decide 38 = .ok (.getfield 21, 3) := by decide +kernel
theorem dX0_decide_41 : decode cX0_decide 41 = .ok (.iconst 1, 1) := by decide +kernel
theorem dX0_decide_42 : decode cX0_decide 42 = .ok (.iadd, 1) := by decide +kernel
theorem dX0_decide_43 : decode cX0_decide 43 = .ok (.putfield 21, 3) := by decide +kernel
theorem dX0_decide_46 : decode cX0_decide 46 = .ok (.iload 4, 2) := by decide +kernel
theorem dX0_decide_48 : decode cX0_decide 48 = .ok (.iload 5, 2) := by decide +kernel
theorem dX0_decide_50 : decode cX0_decide 50 = .ok (.if_icmp .ne 19, 3) := by decide +kernel
theorem dX0_decide_53 : decode cX0_decide 53 = .ok (.aload_n 0, 1) := by decide +kernel
theorem dX0_decide_54 : decode cX0_decide 54 = .ok (.iload_n 3, 1) := by decide +kernel
theorem dX0_decide_55 : decode cX0_decide 55 = .ok (.putfield 15, 3) := by decide +kernel
theorem dX0_decide_58 : decode cX0_decide 58 = .ok (.iload 4, 2) := by decide +kernel
theorem dX0_decide_60 : decode cX0_decide 60 = .ok (.ifCond .eq 7, 3) := by decide +kernel
theorem dX0_decide_63 : decode cX0_decide 63 = .ok (.iconst 0, 1) := by decide +kernel
theorem dX0_decide_64 : decode cX0_decide 64 = .ok (.goto 4, 3) := by decide +kernel
theorem dX0_decide_67 : decode cX0_decide 67 = .ok (.iconst 3, 1) := by decide +kernel
theorem dX0_decide_68 : decode cX0_decide 68 = .ok (.ireturn, 1) := by decide +kernel
theorem dX0_decide_69 : decode cX0_decide 69 = .ok (.aload_n 0, 1) := by decide +kernel
theorem dX0_decide_70 : decode cX0_decide 70 = .ok (.iload 5, 2) := by decide +kernel
theorem dX0_decide_72 : decode cX0_decide 72 = .ok (.ifCond .eq 7, 3) := by decide +kernel
theorem dX0_decide_75 : decode cX0_decide 75 = .ok (.iload_n 2, 1) := by decide +kernel
theorem dX0_decide_76 : decode cX0_decide 76 = .ok (.goto 4, 3) := by decide +kernel
theorem dX0_decide_79 : decode cX0_decide 79 = .ok (.iload_n 1, 1) := by decide +kernel
theorem dX0_decide_80 : decode cX0_decide 80 = .ok (.putfield 15, 3) := by decide +kernel
theorem dX0_decide_83 : decode cX0_decide 83 = .ok (.iload 5, 2) := by decide +kernel
theorem dX0_decide_85 : decode cX0_decide 85 = .ok (.ifCond .eq 7, 3) := by decide +kernel
theorem dX0_decide_88 : decode cX0_decide 88 = .ok (.iconst 1, 1) := by decide +kernel
theorem dX0_decide_89 : decode cX0_decide 89 = .ok (.goto 4, 3) := by decide +kernel
theorem dX0_decide_92 : decode cX0_decide 92 = .ok (.iconst 2, 1) := by decide +kernel
theorem dX0_decide_93 : decode cX0_decide 93 = .ok (.ireturn, 1) := by decide +kernel
theorem dX0_isNear_0 : decode cX0_isNear 0 = .ok (.iload_n 1, 1) := by decide +kernel
theorem dX0_isNear_1 : decode cX0_isNear 1 = .ok (.iload_n 2, 1) := by decide +kernel
theorem dX0_isNear_2 : decode cX0_isNear 2 = .ok (.isub, 1) := by decide +kernel
theorem dX0_isNear_3 : decode cX0_isNear 3 = .ok (.invokestatic 28, 3) := by decide +kernel
theorem dX0_isNear_6 : decode cX0_isNear 6 = .ok (.bipush 100, 2) := by decide +kernel
theorem dX0_isNear_8 : decode cX0_isNear 8 = .ok (.imul, 1) := by decide +kernel
theorem dX0_isNear_9 : decode cX0_isNear 9 = .ok (.iload_n 2, 1) := by decide +kernel
theorem dX0_isNear_10 : decode cX0_isNear 10 = .ok (.aload_n 0, 1) := by decide +kernel
theorem dX0_isNear_11 : decode cX0_isNear 11 = .ok (.getfield 9, 3) := by decide +kernel
theorem dX0_isNear_14 : decode cX0_isNear 14 = .ok (.imul, 1) := by decide +kernel
theorem dX0_isNear_15 : decode cX0_isNear 15 = .ok (.if_icmp .gt 7, 3) := by decide +kernel
theorem dX0_isNear_18 : decode cX0_isNear 18 = .ok (.iconst 1, 1) := by decide +kernel
theorem dX0_isNear_19 : decode cX0_isNear 19 = .ok (.goto 4, 3) := by decide +kernel
theorem dX0_isNear_22 : decode cX0_isNear 22 = .ok (.iconst 0, 1) := by decide +kernel
theorem dX0_isNear_23 : decode cX0_isNear 23 = .ok (.ireturn, 1) := by decide +kernel
theorem dX1_init_0 : decode cX1_init 0 = .ok (.aload_n 0, 1) := by decide +kernel
theorem dX1_init_1 : decode cX1_init 1 = .ok (.invokespecial 1, 3) := by decide +kernel
theorem dX1_init_4 : decode cX1_init 4 = .ok (.aload_n 0, 1) := by decide +kernel
theorem dX1_init_5 : decode cX1_init 5 = .ok (.aload_n 1, 1) := by decide +kernel
theorem dX1_init_6 : decode cX1_init 6 = .ok (.putfield 7, 3) := by decide +kernel
theorem dX1_init_9 : decode cX1_init 9 = .ok (.return_, 1) := by decide +kernel
theorem dX2_init_0 : decode cX2_init 0 = .ok (.aload_n 0, 1) := by decide +kernel
theorem dX2_init_1 : decode cX2_init 1 = .ok (.invokespecial 3, 3) := by decide +kernel
theorem dX2_init_4 : decode cX2_init 4 = .ok (.aload_n 0, 1) := by decide +kernel
theorem dX2_init_5 : decode cX2_init 5 = .ok (.bipush 32, 2) := by decide +kernel
theorem dX2_init_7 : decode cX2_init 7 = .ok (.newarray .int, 2) := by decide +kernel
theorem dX2_init_9 : decode cX2_init 9 = .ok (.putfield 9, 3) := by decide +kernel
theorem dX2_init_12 : decode cX2_init 12 = .ok (.aload_n 0, 1) := by decide +kernel
theorem dX2_init_13 : decode cX2_init 13 = .ok (.bipush 32, 2) := by decide +kernel
theorem dX2_init_15 : decode cX2_init 15 = .ok (.newarray .int, 2) := by decide +kernel
theorem dX2_init_17 : decode cX2_init 17 = .ok (.putfield 15, 3) := by decide +kernel
theorem dX2_init_20 : decode cX2_init 20 = .ok (.aload_n 0, 1) := by decide +kernel
theorem dX2_init_21 : decode cX2_init 21 = .ok (.bipush 32, 2) := by decide +kernel
theorem dX2_init_23 : decode cX2_init 23 = .ok (.newarray .int, 2) := by decide +kernel
theorem dX2_init_25 : decode cX2_init 25 = .ok (.putfield 18, 3) := by decide +kernel
theorem dX2_init_28 : decode cX2_init 28 = .ok (.aload_n 0, 1) := by decide +kernel
theorem dX2_init_29 : decode cX2_init 29 = .ok (.iconst 0, 1) := by decide +kernel
theorem dX2_init_30 : decode cX2_init 30 = .ok (.putfield 21, 3) := by decide +kernel
theorem dX2_init_33 : decode cX2_init 33 = .ok (.aload_n 0, 1) := by decide +kernel
theorem dX2_init_34 : decode cX2_init 34 = .ok (.iconst 0, 1) := by decide +kernel
theorem dX2_init_35 : decode cX2_init 35 = .ok (.putfield 25, 3) := by decide +kernel
theorem dX2_init_38 : decode cX2_init 38 = .ok (.return_, 1) := by decide +kernel
set_option maxRecDepth 20000 in
theorem ggX2_write_X2_grow : GoodIn wsX2_write wsX2_grow := goodIn_r _ [10, 2, 11, 12, 13, 14, 3, 4, 15, 16, 17, 18, 19, 20, 21, 22, 23, 24, 25, 26, 27, 28, 29, 30, 31, 32, 33, 34, 35] (by decide +kernel) (by decide +kernel)
set_option maxRecDepth 20000 in
theorem gX2_write_X2_grow : GoodIn wsX2_write (wsV RX2 28 RX2 yX2_grow wsX2_grow) := goodIn_app (goodIn_of _ (by decide +kernel)) ggX2_write_X2_grow
theorem dX2_write_0 : decode cX2_write 0 = .ok (.aload_n 0, 1) := by decide +kernel
theorem dX2_write_1 : decode cX2_write 1 = .ok (.getfield 21, 3) := by decide +kernel
theorem dX2_write_4 : decode cX2_write 4 = .ok (.aload_n 0, 1) := by decide +kernel
theorem dX2_write_5 : decode cX2_write 5 = .ok (.getfield 9, 3) := by decide +kernel
theorem dX2_write_8 : decode cX2_write 8 = .ok (.arraylength, 1) := by decide +kernel
theorem dX2_write_9 : decode cX2_write 9 = .ok (.if_icmp .lt 7, 3) := by decide +kernel
theorem dX2_write_12 : decode cX2_write 12 = .ok (.aload_n 0, 1) := by decide +kernel
theorem dX2_write_13 : decode cX2_write 13 = .ok (.invokevirtual 28, 3) := by decide +kernel
theorem dX2_write_16 : decode cX2_write 16 = .ok (.aload_n 0, 1) := by decide +kernel
theorem dX2_write_17 : decode cX2_write 17 = .ok (.getfield 9, 3) := by decide +kernel
theorem dX2_write_20 : decode cX2_write 20 = .ok (.aload_n 0, 1) := by decide +kernel
theorem dX2_write_21 : decode cX2_write 21 = .ok (.getfield 21, 3) := by decide +kernel
theorem dX2_write_24 : decode cX2_write 24 = .ok (.iload_n 1, 1) := by decide +kernel
theorem dX2_write_25 : decode cX2_write 25 = .ok (.iastore, 1) := by decide +kernel
theorem dX2_write_26 : decode cX2_write 26 = .ok (.aload_n 0, 1) := by decide +kernel
theorem dX2_write_27 : decode cX2_write 27 = .ok (.getfield 15, 3) := by decide +kernel
theorem dX2_write_30 : decode cX2_write 30 = .ok (.aload_n 0, 1) := by decide +kernel
theorem dX2_write_31 : decode cX2_write 31 = .ok (.getfield 21, 3) := by decide +kernel
theorem dX2_write_34 : decode cX2_write 34 = .ok (.iload_n 2, 1) := by decide +kernel
theorem dX2_write_35 : decode cX2_write 35 = .ok (.iastore, 1) := by decide +kernel
theorem dX2_write_36 : decode cX2_write 36 = .ok (.aload_n 0, 1) := by decide +kernel
theorem dX2_write_37 : decode cX2_write 37 = .ok (.getfield 18, 3) := by decide +kernel
theorem dX2_write_40 : decode cX2_write 40 = .ok (.aload_n 0, 1) := by decide +kernel
theorem dX2_write_41 : decode cX2_write 41 = .ok (.getfield 21, 3) := by decide +kernel
theorem dX2_write_44 : decode cX2_write 44 = .ok (.iload_n 3, 1) := by decide +kernel
theorem dX2_write_45 : decode cX2_write 45 = .ok (.iastore, 1) := by decide +kernel
theorem dX2_write_46 : decode cX2_write 46 = .ok (.aload_n 0, 1) := by decide +kernel
theorem dX2_write_47 : decode cX2_write 47 = .ok (.dup, 1) := by decide +kernel
theorem dX2_write_48 : decode cX2_write 48 = .ok (.getfield 21, 3) := by decide +kernel
theorem dX2_write_51 : decode cX2_write 51 = .ok (.iconst 1, 1) := by decide +kernel
theorem dX2_write_52 : decode cX2_write 52 = .ok (.iadd, 1) := by decide +kernel
theorem dX2_write_53 : decode cX2_write 53 = .ok (.putfield 21, 3) := by decide +kernel
theorem dX2_write_56 : decode cX2_write 56 = .ok (.aload_n 0, 1) := by decide +kernel
theorem dX2_write_57 : decode cX2_write 57 = .ok (.dup, 1) := by decide +kernel
theorem dX2_write_58 : decode cX2_write 58 = .ok (.getfield 25, 3) := by decide +kernel
theorem dX2_write_61 : decode cX2_write 61 = .ok (.iload_n 3, 1) := by decide +kernel
theorem dX2_write_62 : decode cX2_write 62 = .ok (.iadd, 1) := by decide +kernel
theorem dX2_write_63 : decode cX2_write 63 = .ok (.putfield 25, 3) := by decide +kernel
theorem dX2_write_66 : decode cX2_write 66 = .ok (.return_, 1) := by decide +kernel
set_option maxRecDepth 20000 in
theorem ggX2_grow_J7_copyOf_59c91 : GoodIn wsX2_grow wsJ7_copyOf_59c91 := goodIn_r _ [11, 12, 13, 14, 15, 16, 17, 18, 19, 3, 4, 5, 20, 21, 22, 23] (by decide +kernel) (by decide +kernel)
set_option maxRecDepth 20000 in
theorem gX2_grow_J7_copyOf_59c91 : GoodIn wsX2_grow (va_wsS RX2 37 yJ7_copyOf_59c91 wsJ7_copyOf_59c91) := goodIn_app (goodIn_of _ (by decide +kernel)) ggX2_grow_J7_copyOf_59c91
theorem dX2_grow_0 : decode cX2_grow 0 = .ok (.sipush 20000, 3) := by decide +kernel
theorem dX2_grow_3 : decode cX2_grow 3 = .ok (.aload_n 0, 1) := by decide +kernel
theorem dX2_grow_4 : decode cX2_grow 4 = .ok (.getfield 9, 3) := by decide +kernel
theorem dX2_grow_7 : decode cX2_grow 7 = .ok (.arraylength, 1) := by decide +kernel
theorem dX2_grow_8 : decode cX2_grow 8 = .ok (.iconst 2, 1) := by decide +kernel
theorem dX2_grow_9 : decode cX2_grow 9 = .ok (.imul, 1) := by decide +kernel
theorem dX2_grow_10 : decode cX2_grow 10 = .ok (.invokestatic 31, 3) := by decide +kernel
theorem dX2_grow_13 : decode cX2_grow 13 = .ok (.istore_n 1, 1) := by decide +kernel
theorem dX2_grow_14 : decode cX2_grow 14 = .ok (.aload_n 0, 1) := by decide +kernel
theorem dX2_grow_15 : decode cX2_grow 15 = .ok (.aload_n 0, 1) := by decide +kernel
theorem dX2_grow_16 : decode cX2_grow 16 = .ok (.getfield 9, 3) := by decide +kernel
theorem dX2_grow_19 : decode cX2_grow 19 = .ok (.iload_n 1, 1) := by decide +kernel
theorem dX2_grow_20 : decode cX2_grow 20 = .ok (.invokestatic 37, 3) := by decide +kernel
theorem dX2_grow_23 : decode cX2_grow 23 = .ok (.putfield 9, 3) := by decide +kernel
theorem dX2_grow_26 : decode cX2_grow 26 = .ok (.aload_n 0, 1) := by decide +kernel
theorem dX2_grow_27 : decode cX2_grow 27 = .ok (.aload_n 0, 1) := by decide +kernel
theorem dX2_grow_28 : decode cX2_grow 28 = .ok (.getfield 15, 3) := by decide +kernel
theorem dX2_grow_31 : decode cX2_grow 31 = .ok (.iload_n 1, 1) := by decide +kernel
theorem dX2_grow_32 : decode cX2_grow 32 = .ok (.invokestatic 37, 3) := by decide +kernel
theorem dX2_grow_35 : decode cX2_grow 35 = .ok (.putfield 15, 3) := by decide +kernel
theorem dX2_grow_38 : decode cX2_grow 38 = .ok (.aload_n 0, 1) := by decide +kernel
theorem dX2_grow_39 : decode cX2_grow 39 = .ok (.aload_n 0, 1) := by decide +kernel
theorem dX2_grow_40 : decode cX2_grow 40 = .ok (.getfield 18, 3) := by decide +kernel
theorem dX2_grow_43 : decode cX2_grow 43 = .ok (.iload_n 1, 1) := by decide +kernel
theorem dX2_grow_44 : decode cX2_grow 44 = .ok (.invokestatic 37, 3) := by decide +kernel
theorem dX2_grow_47 : decode cX2_grow 47 = .ok (.putfield 18, 3) := by decide +kernel
theorem dX2_grow_50 : decode cX2_grow 50 = .ok (.return_, 1) := by decide +kernel
theorem dX3_init_0 : decode cX3_init 0 = .ok (.aload_n 0, 1) := by decide +kernel
theorem dX3_init_1 : decode cX3_init 1 = .ok (.invokespecial 1, 3) := by decide +kernel
theorem dX3_init_4 : decode cX3_init 4 = .ok (.aload_n 0, 1) := by decide +kernel
theorem dX3_init_5 : decode cX3_init 5 = .ok (.iconst 0, 1) := by decide +kernel
theorem dX3_init_6 : decode cX3_init 6 = .ok (.putfield 7, 3) := by decide +kernel
theorem dX3_init_9 : decode cX3_init 9 = .ok (.aload_n 0, 1) := by decide +kernel
theorem dX3_init_10 : decode cX3_init 10 = .ok (.iconst 0, 1) := by decide +kernel
theorem dX3_init_11 : decode cX3_init 11 = .ok (.putfield 13, 3) := by decide +kernel
theorem dX3_init_14 : decode cX3_init 14 = .ok (.aload_n 0, 1) := by decide +kernel
theorem dX3_init_15 : decode cX3_init 15 = .ok (.iconst 0, 1) := by decide +kernel
theorem dX3_init_16 : decode cX3_init 16 = .ok (.putfield 16, 3) := by decide +kernel
theorem dX3_init_19 : decode cX3_init 19 = .ok (.aload_n 0, 1) := by decide +kernel
theorem dX3_init_20 : decode cX3_init 20 = .ok (.iconst 0, 1) := by decide +kernel
theorem dX3_init_21 : decode cX3_init 21 = .ok (.putfield 19, 3) := by decide +kernel
theorem dX3_init_24 : decode cX3_init 24 = .ok (.aload_n 0, 1) := by decide +kernel
theorem dX3_init_25 : decode cX3_init 25 = .ok (.iload_n 1, 1) := by decide +kernel
theorem dX3_init_26 : decode cX3_init 26 = .ok (.putfield 22, 3) := by decide +kernel
theorem dX3_init_29 : decode cX3_init 29 = .ok (.aload_n 0, 1) := by decide +kernel
theorem dX3_init_30 : decode cX3_init 30 = .ok (.iload_n 2, 1) := by decide +kernel
theorem dX3_init_31 : decode cX3_init 31 = .ok (.putfield 25, 3) := by decide +kernel
theorem dX3_init_34 : decode cX3_init 34 = .ok (.aload_n 0, 1) := by decide +kernel
theorem dX3_init_35 : decode cX3_init 35 = .ok (.iload_n 3, 1) := by decide +kernel
theorem dX3_init_36 : decode cX3_init 36 = .ok (.putfield 28, 3) := by decide +kernel
theorem dX3_init_39 : decode cX3_init 39 = .ok (.aload_n 0, 1) := by decide +kernel
theorem dX3_init_40 : decode cX3_init 40 = .ok (.iload 4, 2) := by decide +kernel
theorem dX3_init_42 : decode cX3_init 42 = .ok (.putfield 31, 3) := by decide +kernel
theorem dX3_init_45 : decode cX3_init 45 = .ok (.aload_n 0, 1) := by decide +kernel
theorem dX3_init_46 : decode cX3_init 46 = .ok (.iload 5, 2) := by decide +kernel
theorem dX3_init_48 : decode cX3_init 48 = .ok (.putfield 34, 3) := by decide +kernel
theorem dX3_init_51 : decode cX3_init 51 = .ok (.return_, 1) := by decide +kernel
set_option maxRecDepth 20000 in
theorem ggX4_init_X7_init : GoodIn wsX4_init wsX7_init := goodIn_r _ [20, 21, 2, 3, 9, 22, 23, 24, 25, 26, 27] (by decide +kernel) (by decide +kernel)
set_option maxRecDepth 20000 in
theorem gX4_init_X7_init_n11 : GoodIn wsX4_init (wsX7_init) := ggX4_init_X7_init
theorem dX4_init_0 : decode cX4_init 0 = .ok (.aload_n 0, 1) := by decide +kernel
theorem dX4_init_1 : decode cX4_init 1 = .ok (.invokespecial 3, 3) := by decide +kernel
theorem dX4_init_4 : decode cX4_init 4 = .ok (.aload_n 0, 1) := by decide +kernel
theorem dX4_init_5 : decode cX4_init 5 = .ok (.new 9, 3) := by decide +kernel
theorem dX4_init_8 : decode cX4_init 8 = .ok (.dup, 1) := by decide +kernel
theorem dX4_init_9 : decode cX4_init 9 = .ok (.invokespecial 11, 3) := by decide +kernel
theorem dX4_init_12 : decode cX4_init 12 = .ok (.putfield 12, 3) := by decide +kernel
theorem dX4_init_15 : decode cX4_init 15 = .ok (.aload_n 0, 1) := by decide +kernel
theorem dX4_init_16 : decode cX4_init 16 = .ok (.new 9, 3) := by decide +kernel
theorem dX4_init_19 : decode cX4_init 19 = .ok (.dup, 1) := by decide +kernel
theorem dX4_init_20 : decode cX4_init 20 = .ok (.invokespecial 11, 3) := by decide +kernel
theorem dX4_init_23 : decode cX4_init 23 = .ok (.putfield 18, 3) := by decide +kernel
theorem dX4_init_26 : decode cX4_init 26 = .ok (.aload_n 0, 1) := by decide +kernel
theorem dX4_init_27 : decode cX4_init 27 = .ok (.bipush 20, 2) := by decide +kernel
theorem dX4_init_29 : decode cX4_init 29 = .ok (.newarray .int, 2) := by decide +kernel
theorem dX4_init_31 : decode cX4_init 31 = .ok (.putfield 21, 3) := by decide +kernel
theorem dX4_init_34 : decode cX4_init 34 = .ok (.aload_n 0, 1) := by decide +kernel
theorem dX4_init_35 : decode cX4_init 35 = .ok (.bipush 20, 2) := by decide +kernel
theorem dX4_init_37 : decode cX4_init 37 = .ok (.newarray .int, 2) := by decide +kernel
theorem dX4_init_39 : decode cX4_init 39 = .ok (.putfield 25, 3) := by decide +kernel
theorem dX4_init_42 : decode cX4_init 42 = .ok (.aload_n 0, 1) := by decide +kernel
theorem dX4_init_43 : decode cX4_init 43 = .ok (.bipush 20, 2) := by decide +kernel
theorem dX4_init_45 : decode cX4_init 45 = .ok (.newarray .int, 2) := by decide +kernel
theorem dX4_init_47 : decode cX4_init 47 = .ok (.putfield 28, 3) := by decide +kernel
theorem dX4_init_50 : decode cX4_init 50 = .ok (.aload_n 0, 1) := by decide +kernel
theorem dX4_init_51 : decode cX4_init 51 = .ok (.bipush 20, 2) := by decide +kernel
theorem dX4_init_53 : decode cX4_init 53 = .ok (.newarray .int, 2) := by decide +kernel
theorem dX4_init_55 : decode cX4_init 55 = .ok (.putfield 31, 3) := by decide +kernel
theorem dX4_init_58 : decode cX4_init 58 = .ok (.aload_n 0, 1) := by decide +kernel
theorem dX4_init_59 : decode cX4_init 59 = .ok (.bipush 20, 2) := by decide +kernel
theorem dX4_init_61 : decode cX4_init 61 = .ok (.newarray .int, 2) := by decide +kernel
theorem dX4_init_63 : decode cX4_init 63 = .ok (.putfield 34, 3) := by decide +kernel
theorem dX4_init_66 : decode cX4_init 66 = .ok (.aload_n 0, 1) := by decide +kernel
theorem dX4_init_67 : decode cX4_init 67 = .ok (.iconst 0, 1) := by decide +kernel
theorem dX4_init_68 : decode cX4_init 68 = .ok (.putfield 37, 3) := by decide +kernel
theorem dX4_init_71 : decode cX4_init 71 = .ok (.aload_n 0, 1) := by decide +kernel
theorem dX4_init_72 : decode cX4_init 72 = .ok (.iconst 0, 1) := by decide +kernel
theorem dX4_init_73 : decode cX4_init 73 = .ok (.putfield 41, 3) := by decide +kernel
theorem dX4_init_76 : decode cX4_init 76 = .ok (.aload_n 0, 1) := by decide +kernel
theorem dX4_init_77 : decode cX4_init 77 = .ok (.iconst 0, 1) := by decide +kernel
theorem dX4_init_78 : decode cX4_init 78 = .ok (.putfield 44, 3) := by decide +kernel
theorem dX4_init_81 : decode cX4_init 81 = .ok (.aload_n 0, 1) := by decide +kernel
theorem dX4_init_82 : decode cX4_init 82 = .ok (.iconst 0, 1) := by decide +kernel
theorem dX4_init_83 : decode cX4_init 83 = .ok (.putfield 47, 3) := by decide +kernel
theorem dX4_init_86 : decode cX4_init 86 = .ok (.return_, 1) := by decide +kernel
set_option maxRecDepth 20000 in
theorem ggX4_addRow_X7_add : GoodIn wsX4_addRow wsX7_add := goodIn_r _ [8, 9, 10, 11, 23, 24, 25] (by decide +kernel) (by decide +kernel)
set_option maxRecDepth 20000 in
theorem gX4_addRow_X7_add : GoodIn wsX4_addRow (wsV RX4 51 RX7 yX7_add wsX7_add) := goodIn_app (goodIn_of _ (by decide +kernel)) ggX4_addRow_X7_add
theorem dX4_addRow_0 : decode cX4_addRow 0 = .ok (.aload_n 0, 1) := by decide +kernel
theorem dX4_addRow_1 : decode cX4_addRow 1 = .ok (.iconst 0, 1) := by decide +kernel
theorem dX4_addRow_2 : decode cX4_addRow 2 = .ok (.putfield 47, 3) := by decide +kernel
theorem dX4_addRow_5 : decode cX4_addRow 5 = .ok (.iload_n 1, 1) := by decide +kernel
theorem dX4_addRow_6 : decode cX4_addRow 6 = .ok (.ifCond .ne 15, 3) := by decide +kernel
theorem dX4_addRow_9 : decode cX4_addRow 9 = .ok (.aload_n 0, 1) := by decide +kernel
theorem dX4_addRow_10 : decode cX4_addRow 10 = .ok (.getfield 12, 3) := by decide +kernel
theorem dX4_addRow_13 : decode cX4_addRow 13 = .ok (.iload_n 2, 1) := by decide +kernel
theorem dX4_addRow_14 : decode cX4_addRow 14 = .ok (.iload_n 3, 1) := by decide +kernel
theorem dX4_addRow_15 : decode cX4_addRow 15 = .ok (.invokevirtual 51, 3) := by decide +kernel
theorem dX4_addRow_18 : decode cX4_addRow 18 = .ok (.goto 12, 3) := by decide +kernel
theorem dX4_addRow_21 : decode cX4_addRow 21 = .ok (.aload_n 0, 1) := by decide +kernel
theorem dX4_addRow_22 : decode cX4_addRow 22 = .ok (.getfield 18, 3) := by decide +kernel
theorem dX4_addRow_25 : decode cX4_addRow 25 = .ok (.iload_n 2, 1) := by decide +kernel
theorem dX4_addRow_26 : decode cX4_addRow 26 = .ok (.iload_n 3, 1) := by decide +kernel
theorem dX4_addRow_27 : decode cX4_addRow 27 = .ok (.invokevirtual 51, 3) := by decide +kernel
theorem dX4_addRow_30 : decode cX4_addRow 30 = .ok (.ireturn, 1) := by decide +kernel
theorem dX4_removeRows_0 : decode cX4_removeRows 0 = .ok (.aload_n 0, 1) := by decide +kernel
theorem dX4_removeRows_1 : decode cX4_removeRows 1 = .ok (.iconst 0, 1) := by decide +kernel
theorem dX4_removeRows_2 : decode cX4_removeRows 2 = .ok (.putfield 47, 3) := by decide +kernel
theorem dX4_removeRows_5 : decode cX4_removeRows 5 = .ok (.aload_n 0, 1) := by decide +kernel
theorem dX4_removeRows_6 : decode cX4_removeRows 6 = .ok (.getfield 12, 3) := by decide +kernel
theorem dX4_removeRows_9 : decode cX4_removeRows 9 = .ok (.iconst 0, 1) := by decide +kernel
theorem dX4_removeRows_10 : decode cX4_removeRows 10 = .ok (.putfield 55, 3) := by decide +kernel
theorem dX4_removeRows_13 : decode cX4_removeRows 13 = .ok (.aload_n 0, 1) := by decide +kernel
theorem dX4_removeRows_14 : decode cX4_removeRows 14 = .ok (.getfield 18, 3) := by decide +kernel
theorem dX4_removeRows_17 : decode cX4_removeRows 17 = .ok (.iconst 0, 1) := by decide +kernel
theorem dX4_removeRows_18 : decode cX4_removeRows 18 = .ok (.putfield 55, 3) := by decide +kernel
theorem dX4_removeRows_21 : decode cX4_removeRows 21 = .ok (.return_, 1) := by decide +kernel
theorem dX4_setApart_0 : decode cX4_setApart 0 = .ok (.aload_n 0, 1) := by decide +kernel
theorem dX4_setApart_1 : decode cX4_setApart 1 = .ok (.iconst 0, 1) := by decide +kernel
theorem dX4_setApart_2 : decode cX4_setApart 2 = .ok (.putfield 47, 3) := by decide +kernel
theorem dX4_setApart_5 : decode cX4_setApart 5 = .ok (.aload_n 0, 1) := by decide +kernel
theorem dX4_setApart_6 : decode cX4_setApart 6 = .ok (.iload_n 1, 1) := by decide +kernel
theorem dX4_setApart_7 : decode cX4_setApart 7 = .ok (.putfield 37, 3) := by decide +kernel
theorem dX4_setApart_10 : decode cX4_setApart 10 = .ok (.aload_n 0, 1) := by decide +kernel
theorem dX4_setApart_11 : decode cX4_setApart 11 = .ok (.iload_n 2, 1) := by decide +kernel
theorem dX4_setApart_12 : decode cX4_setApart 12 = .ok (.putfield 41, 3) := by decide +kernel
theorem dX4_setApart_15 : decode cX4_setApart 15 = .ok (.return_, 1) := by decide +kernel
set_option maxRecDepth 20000 in
theorem ggX4_settle_X4_compareRows : GoodIn wsX4_settle wsX4_compareRows := goodIn_r _ [7, 2, 8, 9, 10, 11, 12, 13, 14, 15, 53, 54, 55, 56, 57, 58, 59, 60, 61, 62, 63, 64, 65, 66] (by decide +kernel) (by decide +kernel)
set_option maxRecDepth 20000 in
theorem gX4_settle_X4_compareRows : GoodIn wsX4_settle (wsV RX4 58 RX4 yX4_compareRows wsX4_compareRows) := goodIn_app (goodIn_of _ (by decide +kernel)) ggX4_settle_X4_compareRows
set_option maxRecDepth 20000 in
theorem ggX4_settle_X4_findAsManyAsCanBe : GoodIn wsX4_settle wsX4_findAsManyAsCanBe := goodIn_r _ [19, 20, 21, 22, 23, 24, 25, 26, 27, 28, 29, 6, 30, 31, 2, 32, 9, 8, 33, 34, 35, 36, 37, 38, 39, 40, 41, 42, 43, 44, 53, 54, 55, 56, 57, 58, 59, 60, 61, 62, 63, 64, 65, 66] (by decide +kernel) (by decide +kernel)
set_option maxRecDepth 20000 in
theorem gX4_settle_X4_findAsManyAsCanBe : GoodIn wsX4_settle (wsV RX4 61 RX4 yX4_findAsManyAsCanBe wsX4_findAsManyAsCanBe) := goodIn_app (goodIn_of _ (by decide +kernel)) ggX4_settle_X4_findAsManyAsCanBe
set_option maxRecDepth 20000 in
theorem ggX4_settle_X4_takeLowest : GoodIn wsX4_settle wsX4_takeLowest := goodIn_r _ [48, 9, 8, 33, 34, 35, 6, 36, 21, 49, 50, 51, 52, 20, 41, 42, 43, 44, 27, 28, 29, 30, 31, 2, 32, 23, 24, 25, 26, 37, 38, 39, 40, 53, 54, 55, 56, 57, 58, 59, 60, 61, 62, 63, 64, 65, 66] (by decide +kernel) (by decide +kernel)
set_option maxRecDepth 20000 in
theorem gX4_settle_X4_takeLowest : GoodIn wsX4_settle (wsV RX4 64 RX4 yX4_takeLowest wsX4_takeLowest) := goodIn_app (goodIn_of _ (by decide +kernel)) ggX4_settle_X4_takeLowest
theorem dX4_settle_0 : decode cX4_settle 0 = .ok (.aload_n 0, 1) := by decide +kernel
theorem dX4_settle_1 : decode cX4_settle 1 = .ok (.getfield 47, 3) := by decide +kernel
theorem dX4_settle_4 : decode cX4_settle 4 = .ok (.ifCond .eq 4, 3) := by decide +kernel
theorem dX4_settle_7 : decode cX4_settle 7 = .ok (.return_, 1) := by decide +kernel
theorem dX4_settle_8 : decode cX4_settle 8 = .ok (.aload_n 0, 1) := by decide +kernel
theorem dX4_settle_9 : decode cX4_settle 9 = .ok (.invokevirtual 58, 3) := by decide +kernel
theorem dX4_settle_12 : decode cX4_settle 12 = .ok (.aload_n 0, 1) := by decide +kernel
theorem dX4_settle_13 : decode cX4_settle 13 = .ok (.invokevirtual 61, 3) := by decide +kernel
theorem dX4_settle_16 : decode cX4_settle 16 = .ok (.iconst 0, 1) := by decide +kernel
theorem dX4_settle_17 : decode cX4_settle 17 = .ok (.istore_n 1, 1) := by decide +kernel
theorem dX4_settle_18 : decode cX4_settle 18 = .ok (.iload_n 1, 1) := by decide +kernel
theorem dX4_settle_19 : decode cX4_settle 19 = .ok (.aload_n 0, 1) := by decide +kernel
theorem dX4_settle_20 : decode cX4_settle 20 = .ok (.getfield 12, 3) := by decide +kernel
theorem dX4_settle_23 : decode cX4_settle 23 = .ok (.getfield 55, 3) := by decide +kernel
theorem dX4_settle_26 : decode cX4_settle 26 = .ok (.if_icmp .ge 14, 3) := by decide +kernel
theorem dX4_settle_29 : decode cX4_settle 29 = .ok (.aload_n 0, 1) := by decide +kernel
theorem dX4_settle_30 : decode cX4_settle 30 = .ok (.iload_n 1, 1) := by decide +kernel
theorem dX4_settle_31 : decode cX4_settle 31 = .ok (.invokevirtual 64, 3) := by decide +kernel
theorem dX4_settle_34 : decode cX4_settle 34 = .ok (.iinc 1 1, 3) := by decide +kernel
theorem dX4_settle_37 : decode cX4_settle 37 = .ok (.goto (-19), 3) := by decide +kernel
theorem dX4_settle_40 : decode cX4_settle 40 = .ok (.aload_n 0, 1) := by decide +kernel
theorem dX4_settle_41 : decode cX4_settle 41 = .ok (.iconst 1, 1) := by decide +kernel
theorem dX4_settle_42 : decode cX4_settle 42 = .ok (.putfield 47, 3) := by decide +kernel
theorem dX4_settle_45 : decode cX4_settle 45 = .ok (.return_, 1) := by decide +kernel
theorem dX4_compareRows_0 : decode cX4_compareRows 0 = .ok (.iconst 0, 1) := by decide +kernel
theorem dX4_compareRows_1 : decode cX4_compareRows 1 = .ok (.istore_n 1, 1) := by decide +kernel
theorem dX4_compareRows_2 : decode cX4_compareRows 2 = .ok (.iload_n 1, 1) := by decide +kernel
theorem dX4_compareRows_3 : decode cX4_compareRows 3 = .ok (.aload_n 0, 1) := by decide +kernel
theorem dX4_compareRows_4 : decode cX4_compareRows 4 = .ok (.getfield 12, 3) := by decide +kernel
theorem dX4_compareRows_7 : decode cX4_compareRows 7 = .ok (.getfield 55, 3) := by decide +kernel
theorem dX4_compareRows_10 : decode cX4_compareRows 10 = .ok (.if_icmp .ge 105, 3) := by decide +kernel
theorem dX4_compareRows_13 : decode cX4_compareRows 13 = .ok (.aload_n 0, 1) := by decide +kernel
theorem dX4_compareRows_14 : decode cX4_compareRows 14 = .ok (.getfield 28, 3) := by decide +kernel
theorem dX4_compareRows_17 : decode cX4_compareRows 17 = .ok (.iload_n 1, 1) := by decide +kernel
theorem dX4_compareRows_18 : decode cX4_compareRows 18 = .ok (.iconst 0, 1) := by decide +kernel
theorem dX4_compareRows_19 : decode cX4_compareRows 19 = .ok (.iastore, 1) := by decide +kernel
theorem dX4_compareRows_20 : decode cX4_compareRows 20 = .ok (.iconst 0, 1) := by decide +kernel
theorem dX4_compareRows_21 : decode cX4_compareRows 21 = .ok (.istore_n 2, 1) := by decide +kernel
theorem dX4_compareRows_22 : decode cX4_compareRows 22 = .ok (.iload_n 2, 1) := by decide +kernel
theorem dX4_compareRows_23 : decode cX4_compareRows 23 = .ok (.aload_n 0, 1) := by decide +kernel
theorem dX4_compareRows_24 : decode cX4_compareRows 24 = .ok (.getfield 18, 3) := by decide +kernel
theorem dX4_compareRows_27 : decode cX4_compareRows 27 = .ok (.getfield 55, 3) := by decide +kernel
theorem dX4_compareRows_30 : decode cX4_compareRows 30 = .ok (.if_icmp .ge 79, 3) := by decide +kernel
theorem dX4_compareRows_33 : decode cX4_compareRows 33 = .ok (.aload_n 0, 1) := by decide +kernel
theorem dX4_compareRows_34 : decode cX4_compareRows 34 = .ok (.getfield 12, 3) := by decide +kernel
theorem dX4_compareRows_37 : decode cX4_compareRows 37 = .ok (.getfield 68, 3) := by decide +kernel
theorem dX4_compareRows_40 : decode cX4_compareRows 40 = .ok (.iload_n 1, 1) := by decide +kernel
theorem dX4_compareRows_41 : decode cX4_compareRows 41 = .ok (.iaload, 1) := by decide +kernel
theorem dX4_compareRows_42 : decode cX4_compareRows 42 = .ok (.aload_n 0, 1) := by decide +kernel
theorem dX4_compareRows_43 : decode cX4_compareRows 43 = .ok (.getfield 18, 3) := by decide +kernel
theorem dX4_compareRows_46 : decode cX4_compareRows 46 = .ok (.getfield 68, 3) := by decide +kernel
theorem dX4_compareRows_49 : decode cX4_compareRows 49 = .ok (.iload_n 2, 1) := by decide +kernel
theorem dX4_compareRows_50 : decode cX4_compareRows 50 = .ok (.iaload, 1) := by decide +kernel
theorem dX4_compareRows_51 : decode cX4_compareRows 51 = .ok (.isub, 1) := by decide +kernel
theorem dX4_compareRows_52 : decode cX4_compareRows 52 = .ok (.invokestatic 71, 3) := by decide +kernel
theorem dX4_compareRows_55 : decode cX4_compareRows 55 = .ok (.aload_n 0, 1) := by decide +kernel
theorem dX4_compareRows_56 : decode cX4_compareRows 56 = .ok (.getfield 37, 3) := by decide +kernel
theorem dX4_compareRows_59 : decode cX4_compareRows 59 = .ok (.if_icmp .gt 44, 3) := by decide +kernel
theorem dX4_compareRows_62 : decode cX4_compareRows 62 = .ok (.aload_n 0, 1) := by decide +kernel
theorem dX4_compareRows_63 : decode cX4_compareRows 63 = .ok (.getfield 12, 3) := by decide +kernel
theorem dX4_compareRows_66 : decode cX4_compareRows 66 = .ok (.getfield 77, 3) := by decide +kernel
theorem dX4_compareRows_69 : decode cX4_compareRows 69 = .ok (.iload_n 1, 1) := by decide +kernel
theorem dX4_compareRows_70 : decode cX4_compareRows 70 = .ok (.iaload, 1) := by decide +kernel
theorem dX4_compareRows_71 : decode cX4_compareRows 71 = .ok (.aload_n 0, 1) := by decide +kernel
theorem dX4_compareRows_72 : decode cX4_compareRows 72 = .ok (.getfield 18, 3) := by decide +kernel
theorem dX4_compareRows_75 : decode cX4_compareRows 75 = .ok (.getfield 77, 3) := by decide +kernel
theorem dX4_compareRows_78 : decode cX4_compareRows 78 = .ok (.iload_n 2, 1) := by decide +kernel
theorem dX4_compareRows_79 : decode cX4_compareRows 79 = .ok (.iaload, 1) := by decide +kernel
theorem dX4_compareRows_80 : decode cX4_compareRows 80 = .ok (.isub, 1) := by decide +kernel
theorem dX4_compareRows_81 : decode cX4_compareRows 81 = .ok (.invokestatic 71, 3) := by decide +kernel
theorem dX4_compareRows_84 : decode cX4_compareRows 84 = .ok (.aload_n 0, 1) := by decide +kernel
theorem dX4_compareRows_85 : decode cX4_compareRows 85 = .ok (.getfield 41, 3) := by decide +kernel
theorem dX4_compareRows_88 : decode cX4_compareRows 88 = .ok (.if_icmp .gt 15, 3) := by decide +kernel
theorem dX4_compareRows_91 : decode cX4_compareRows 91 = .ok (.aload_n 0, 1) := by decide +kernel
theorem dX4_compareRows_92 : decode cX4_compareRows 92 = .ok (.getfield 28, 3) := by decide +kernel
theorem dX4_compareRows_95 : decode cX4_compareRows 95 = .ok (.iload_n 1, 1) := by decide +kernel
theorem dX4_compareRows_96 : decode cX4_compareRows 96 = .ok (.dup2, 1) := by decide +kernel
theorem dX4_compareRows_97 : decode cX4_compareRows 97 = .ok (.iaload, 1) := by decide +kernel
theorem dX4_compareRows_98 : decode cX4_compareRows 98 = .ok (.iconst 1, 1) := by decide +kernel
theorem dX4_compareRows_99 : decode cX4_compareRows 99 = .ok (.iload_n 2, 1) := by decide +kernel
theorem dX4_compareRows_100 : decode cX4_compareRows 100 = .ok (.ishl, 1) := by decide +kernel
theorem dX4_compareRows_101 : decode cX4_compareRows 101 = .ok (.ior, 1) := by decide +kernel
theorem dX4_compareRows_102 : decode cX4_compareRows 102 = .ok (.iastore, 1) := by decide +kernel
theorem dX4_compareRows_103 : decode cX4_compareRows 103 = .ok (.iinc 2 1, 3) := by decide +kernel
theorem dX4_compareRows_106 : decode cX4_compareRows 106 = .ok (.goto (-84), 3) := by decide +kernel
theorem dX4_compareRows_109 : decode cX4_compareRows 109 = .ok (.iinc 1 1, 3) := by decide +kernel
theorem dX4_compareRows_112 : decode cX4_compareRows 112 = .ok (.goto (-110), 3) := by decide +kernel
theorem dX4_compareRows_115 : decode cX4_compareRows 115 = .ok (.return_, 1) := by decide +kernel
set_option maxRecDepth 20000 in
theorem ggX4_findAsManyAsCanBe_J7_fill_53178 : GoodIn wsX4_findAsManyAsCanBe wsJ7_fill_53178 := goodIn_r _ [7] (by decide +kernel) (by decide +kernel)
set_option maxRecDepth 20000 in
theorem gX4_findAsManyAsCanBe_J7_fill_53178 : GoodIn wsX4_findAsManyAsCanBe (va_wsS RX4 80 yJ7_fill_53178 wsJ7_fill_53178) := goodIn_app (goodIn_of _ (by decide +kernel)) ggX4_findAsManyAsCanBe_J7_fill_53178
set_option maxRecDepth 20000 in
theorem ggX4_findAsManyAsCanBe_X4_pairOneMore : GoodIn wsX4_findAsManyAsCanBe wsX4_pairOneMore := goodIn_r _ [12, 13, 14, 1, 15, 16, 17, 2, 4, 5, 6, 7, 18, 19, 20, 11, 21, 22, 23, 24, 25, 26, 27, 28, 29, 30, 31, 32, 33, 34, 35, 36, 37, 38, 39, 40, 41, 42, 43] (by decide +kernel) (by decide +kernel)
set_option maxRecDepth 20000 in
theorem gX4_findAsManyAsCanBe_X4_pairOneMore : GoodIn wsX4_findAsManyAsCanBe (wsV RX4 86 RX4 yX4_pairOneMore wsX4_pairOneMore) := goodIn_app (goodIn_of _ (by decide +kernel)) ggX4_findAsManyAsCanBe_X4_pairOneMore
theorem dX4_findAsManyAsCanBe_0 : decode cX4_findAsManyAsCanBe 0 = .ok (.aload_n 0, 1) := by decide +kernel
theorem dX4_findAsManyAsCanBe_1 : decode cX4_findAsManyAsCanBe 1 = .ok (.getfield 21, 3) := by decide +kernel
theorem dX4_findAsManyAsCanBe_4 : decode cX4_findAsManyAsCanBe 4 = .ok (.iconst (-1), 1) := by decide +kernel
theorem dX4_findAsManyAsCanBe_5 : decode cX4_findAsManyAsCanBe 5 = .ok (.invokestatic 80, 3) := by decide +kernel
theorem dX4_findAsManyAsCanBe_8 : decode cX4_findAsManyAsCanBe 8 = .ok (.aload_n 0, 1) := by decide +kernel
theorem dX4_findAsManyAsCanBe_9 : decode cX4_findAsManyAsCanBe 9 = .ok (.getfield 25, 3) := by decide +kernel
theorem dX4_findAsManyAsCanBe_12 : decode cX4_findAsManyAsCanBe 12 = .ok (.iconst (-1), 1) := by decide +kernel
theorem dX4_findAsManyAsCanBe_13 : decode cX4_findAsManyAsCanBe 13 = .ok (.invokestatic 80, 3) := by decide +kernel
theorem dX4_findAsManyAsCanBe_16 : decode cX4_findAsManyAsCanBe 16 = .ok (.aload_n 0, 1) := by decide +kernel
theorem dX4_findAsManyAsCanBe_17 : decode cX4_findAsManyAsCanBe 17 = .ok (.iconst 0, 1) := by decide +kernel
theorem dX4_findAsManyAsCanBe_18 : decode cX4_findAsManyAsCanBe 18 = .ok (.putfield 44, 3) := by decide +kernel
theorem dX4_findAsManyAsCanBe_21 : decode cX4_findAsManyAsCanBe 21 = .ok (.aload_n 0, 1) := by decide +kernel
theorem dX4_findAsManyAsCanBe_22 : decode cX4_findAsManyAsCanBe 22 = .ok (.getfield 44, 3) := by decide +kernel
theorem dX4_findAsManyAsCanBe_25 : decode cX4_findAsManyAsCanBe 25 = .ok (.bipush 20, 2) := by decide +kernel
theorem dX4_findAsManyAsCanBe_27 : decode cX4_findAsManyAsCanBe 27 = .ok (.if_icmp .ge 24, 3) := by decide +kernel
theorem dX4_findAsManyAsCanBe_30 : decode cX4_findAsManyAsCanBe 30 = .ok (.aload_n 0, 1) := by decide +kernel
theorem dX4_findAsManyAsCanBe_31 : decode cX4_findAsManyAsCanBe 31 = .ok (.iconst 0, 1) := by decide +kernel
theorem dX4_findAsManyAsCanBe_32 : decode cX4_findAsManyAsCanBe 32 = .ok (.invokevirtual 86, 3) := by decide +kernel
theorem dX4_findAsManyAsCanBe_35 : decode cX4_findAsManyAsCanBe 35 = .ok (.ifCond .eq 16, 3) := by decide +kernel
theorem dX4_findAsManyAsCanBe_38 : decode cX4_findAsManyAsCanBe 38 = .ok (.aload_n 0, 1) := by decide +kernel
theorem dX4_findAsManyAsCanBe_39 : decode cX4_findAsManyAsCanBe 39 = .ok (.dup, 1) := by decide +kernel
theorem dX4_findAsManyAsCanBe_40 : decode cX4_findAsManyAsCanBe 40 = .ok (.getfield 44, 3) := by decide +kernel
theorem dX4_findAsManyAsCanBe_43 : decode cX4_findAsManyAsCanBe 43 = .ok (.iconst 1, 1) := by decide +kernel
theorem dX4_findAsManyAsCanBe_44 : decode cX4_findAsManyAsCanBe 44 = .ok (.iadd, 1) := by decide +kernel
theorem dX4_findAsManyAsCanBe_45 : decode cX4_findAsManyAsCanBe 45 = .ok (.putfield 44, 3) := by decide +kernel
theorem dX4_findAsManyAsCanBe_48 : decode cX4_findAsManyAsCanBe 48 = .ok (.goto (-27), 3) := by decide +kernel
theorem dX4_findAsManyAsCanBe_51 : decode cX4_findAsManyAsCanBe 51 = .ok (.return_, 1) := by decide +kernel
set_option maxRecDepth 20000 in
theorem ggX4_takeLowest_X4_isKept : GoodIn wsX4_takeLowest wsX4_isKept := goodIn_r _ [7, 8, 33, 34, 35, 36, 37, 38, 39, 40, 41, 42, 43] (by decide +kernel) (by decide +kernel)
set_option maxRecDepth 20000 in
theorem gX4_takeLowest_X4_isKept : GoodIn wsX4_takeLowest (wsV RX4 90 RX4 yX4_isKept wsX4_isKept) := goodIn_app (goodIn_of _ (by decide +kernel)) ggX4_takeLowest_X4_isKept
set_option maxRecDepth 20000 in
theorem ggX4_takeLowest_X4_moveTo : GoodIn wsX4_takeLowest wsX4_moveTo := goodIn_r _ [12, 13, 8, 14, 15, 16, 6, 17, 18, 19, 20, 21, 22, 23, 24, 1, 2, 25, 26, 27, 28, 3, 4, 5, 7, 29, 30, 31, 32, 33, 34, 35, 36, 37, 38, 39, 40, 41, 42, 43, 44, 45, 46] (by decide +kernel) (by decide +kernel)
set_option maxRecDepth 20000 in
theorem gX4_takeLowest_X4_moveTo : GoodIn wsX4_takeLowest (wsV RX4 94 RX4 yX4_moveTo wsX4_moveTo) := goodIn_app (goodIn_of _ (by decide +kernel)) ggX4_takeLowest_X4_moveTo
theorem dX4_takeLowest_0 : decode cX4_takeLowest 0 = .ok (.iconst 0, 1) := by decide +kernel
theorem dX4_takeLowest_1 : decode cX4_takeLowest 1 = .ok (.istore_n 2, 1) := by decide +kernel
theorem dX4_takeLowest_2 : decode cX4_takeLowest 2 = .ok (.iload_n 2, 1) := by decide +kernel
theorem dX4_takeLowest_3 : decode cX4_takeLowest 3 = .ok (.aload_n 0, 1) := by decide +kernel
theorem dX4_takeLowest_4 : decode cX4_takeLowest 4 = .ok (.getfield 18, 3) := by decide +kernel
theorem dX4_takeLowest_7 : decode cX4_takeLowest 7 = .ok (.getfield 55, 3) := by decide +kernel
theorem dX4_takeLowest_10 : decode cX4_takeLowest 10 = .ok (.if_icmp .ge 51, 3) := by decide +kernel
theorem dX4_takeLowest_13 : decode cX4_takeLowest 13 = .ok (.aload_n 0, 1) := by decide +kernel
theorem dX4_takeLowest_14 : decode cX4_takeLowest 14 = .ok (.getfield 28, 3) := by decide +kernel
theorem dX4_takeLowest_17 : decode cX4_takeLowest 17 = .ok (.iload_n 1, 1) := by decide +kernel
theorem dX4_takeLowest_18 : decode cX4_takeLowest 18 = .ok (.iaload, 1) := by decide +kernel
theorem dX4_takeLowest_19 : decode cX4_takeLowest 19 = .ok (.iload_n 2, 1) := by decide +kernel
theorem dX4_takeLowest_20 : decode cX4_takeLowest 20 = .ok (.ishr, 1) := by decide +kernel
theorem dX4_takeLowest_21 : decode cX4_takeLowest 21 = .ok (.iconst 1, 1) := by decide +kernel
theorem dX4_takeLowest_22 : decode cX4_takeLowest 22 = .ok (.iand, 1) := by decide +kernel
theorem dX4_takeLowest_23 : decode cX4_takeLowest 23 = .ok (.ifCond .eq 7, 3) := by decide +kernel
theorem dX4_takeLowest_26 : decode cX4_takeLowest 26 = .ok (.iconst 1, 1) := by decide +kernel
theorem dX4_takeLowest_27 : decode cX4_takeLowest 27 = .ok (.goto 4, 3) := by decide +kernel
theorem dX4_takeLowest_30 : decode cX4_takeLowest 30 = .ok (.iconst 0, 1) := by decide +kernel
theorem dX4_takeLowest_31 : decode cX4_takeLowest 31 = .ok (.istore_n 3, 1) := by decide +kernel
theorem dX4_takeLowest_32 : decode cX4_takeLowest 32 = .ok (.iload_n 3, 1) := by decide +kernel
theorem dX4_takeLowest_33 : decode cX4_takeLowest 33 = .ok (.ifCond .eq 22, 3) := by decide +kernel
theorem dX4_takeLowest_36 : decode cX4_takeLowest 36 = .ok (.aload_n 0, 1) := by decide +kernel
theorem dX4_takeLowest_37 : decode cX4_takeLowest 37 = .ok (.iload_n 2, 1) := by decide +kernel
theorem dX4_takeLowest_38 : decode cX4_takeLowest 38 = .ok (.iload_n 1, 1) := by decide +kernel
theorem dX4_takeLowest_39 : decode cX4_takeLowest 39 = .ok (.invokevirtual 90, 3) := by decide +kernel
theorem dX4_takeLowest_42 : decode cX4_takeLowest 42 = .ok (.ifCond .ne 13, 3) := by decide +kernel
theorem dX4_takeLowest_45 : decode cX4_takeLowest 45 = .ok (.aload_n 0, 1) := by decide +kernel
theorem dX4_takeLowest_46 : decode cX4_takeLowest 46 = .ok (.iload_n 1, 1) := by decide +kernel
theorem dX4_takeLowest_47 : decode cX4_takeLowest 47 = .ok (.iload_n 2, 1) := by decide +kernel
theorem dX4_takeLowest_48 : decode cX4_takeLowest 48 = .ok (.invokevirtual 94, 3) := by decide +kernel
theorem dX4_takeLowest_51 : decode cX4_takeLowest 51 = .ok (.ifCond .eq 4, 3) := by decide +kernel
theorem dX4_takeLowest_54 : decode cX4_takeLowest 54 = .ok (.return_, 1) := by decide +kernel
theorem dX4_takeLowest_55 : decode cX4_takeLowest 55 = .ok (.iinc 2 1, 3) := by decide +kernel
theorem dX4_takeLowest_58 : decode cX4_takeLowest 58 = .ok (.goto (-56), 3) := by decide +kernel
theorem dX4_takeLowest_61 : decode cX4_takeLowest 61 = .ok (.return_, 1) := by decide +kernel
theorem dX4_isKept_0 : decode cX4_isKept 0 = .ok (.aload_n 0, 1) := by decide +kernel
theorem dX4_isKept_1 : decode cX4_isKept 1 = .ok (.getfield 25, 3) := by decide +kernel
theorem dX4_isKept_4 : decode cX4_isKept 4 = .ok (.iload_n 1, 1) := by decide +kernel
theorem dX4_isKept_5 : decode cX4_isKept 5 = .ok (.iaload, 1) := by decide +kernel
theorem dX4_isKept_6 : decode cX4_isKept 6 = .ok (.iconst (-1), 1) := by decide +kernel
theorem dX4_isKept_7 : decode cX4_isKept 7 = .ok (.if_icmp .eq 17, 3) := by decide +kernel
theorem dX4_isKept_10 : decode cX4_isKept 10 = .ok (.aload_n 0, 1) := by decide +kernel
theorem dX4_isKept_11 : decode cX4_isKept 11 = .ok (.getfield 25, 3) := by decide +kernel
theorem dX4_isKept_14 : decode cX4_isKept 14 = .ok (.iload_n 1, 1) := by decide +kernel
theorem dX4_isKept_15 : decode cX4_isKept 15 = .ok (.iaload, 1) := by decide +kernel
theorem dX4_isKept_16 : decode cX4_isKept 16 = .ok (.iload_n 2, 1) := by decide +kernel
theorem dX4_isKept_17 : decode cX4_isKept 17 = .ok (.if_icmp .ge 7, 3) := by decide +kernel
theorem dX4_isKept_20 : decode cX4_isKept 20 = .ok (.iconst 1, 1) := by decide +kernel
theorem dX4_isKept_21 : decode cX4_isKept 21 = .ok (.goto 4, 3) := by decide +kernel
theorem dX4_isKept_24 : decode cX4_isKept 24 = .ok (.iconst 0, 1) := by decide +kernel
theorem dX4_isKept_25 : decode cX4_isKept 25 = .ok (.ireturn, 1) := by decide +kernel
set_option maxRecDepth 20000 in
theorem ggX4_moveTo_X4_join : GoodIn wsX4_moveTo wsX4_join := goodIn_r _ [7, 1, 2, 29, 30, 31, 32, 33, 34, 35, 36, 37, 38, 39] (by decide +kernel) (by decide +kernel)
set_option maxRecDepth 20000 in
theorem gX4_moveTo_X4_join : GoodIn wsX4_moveTo (wsV RX4 97 RX4 yX4_join wsX4_join) := goodIn_app (goodIn_of _ (by decide +kernel)) ggX4_moveTo_X4_join
set_option maxRecDepth 20000 in
theorem ggX4_moveTo_X4_pairOneMore : GoodIn wsX4_moveTo wsX4_pairOneMore := goodIn_r _ [11, 12, 13, 1, 14, 15, 16, 2, 17, 18, 19, 20, 21, 22, 23, 6, 24, 25, 26, 27, 28, 3, 4, 5, 7, 29, 30, 31, 32, 33, 34, 35, 36, 37, 38, 39, 40, 41, 42] (by decide +kernel) (by decide +kernel)
set_option maxRecDepth 20000 in
theorem gX4_moveTo_X4_pairOneMore : GoodIn wsX4_moveTo (wsV RX4 86 RX4 yX4_pairOneMore wsX4_pairOneMore) := goodIn_app (goodIn_of _ (by decide +kernel)) ggX4_moveTo_X4_pairOneMore
theorem dX4_moveTo_0 : decode cX4_moveTo 0 = .ok (.aload_n 0, 1) := by decide +kernel
theorem dX4_moveTo_1 : decode cX4_moveTo 1 = .ok (.getfield 21, 3) := by decide +kernel
theorem dX4_moveTo_4 : decode cX4_moveTo 4 = .ok (.iload_n 1, 1) := by decide +kernel
theorem dX4_moveTo_5 : decode cX4_moveTo 5 = .ok (.iaload, 1) := by decide +kernel
theorem dX4_moveTo_6 : decode cX4_moveTo 6 = .ok (.istore_n 3, 1) := by decide +kernel
theorem dX4_moveTo_7 : decode cX4_moveTo 7 = .ok (.aload_n 0, 1) := by decide +kernel
theorem dX4_moveTo_8 : decode cX4_moveTo 8 = .ok (.getfield 25, 3) := by decide +kernel
theorem dX4_moveTo_11 : decode cX4_moveTo 11 = .ok (.iload_n 2, 1) := by decide +kernel
theorem dX4_moveTo_12 : decode cX4_moveTo 12 = .ok (.iaload, 1) := by decide +kernel
theorem dX4_moveTo_13 : decode cX4_moveTo 13 = .ok (.istore 4, 2) := by decide +kernel
theorem dX4_moveTo_15 : decode cX4_moveTo 15 = .ok (.iload_n 3, 1) := by decide +kernel
theorem dX4_moveTo_16 : decode cX4_moveTo 16 = .ok (.iload_n 2, 1) := by decide +kernel
theorem dX4_moveTo_17 : decode cX4_moveTo 17 = .ok (.if_icmp .ne 5, 3) := by decide +kernel
theorem dX4_moveTo_20 : decode cX4_moveTo 20 = .ok (.iconst 1, 1) := by decide +kernel
theorem dX4_moveTo_21 : decode cX4_moveTo 21 = .ok (.ireturn, 1) := by decide +kernel
theorem dX4_moveTo_22 : decode cX4_moveTo 22 = .ok (.iload_n 3, 1) := by decide +kernel
theorem dX4_moveTo_23 : decode cX4_moveTo 23 = .ok (.iconst (-1), 1) := by decide +kernel
theorem dX4_moveTo_24 : decode cX4_moveTo 24 = .ok (.if_icmp .eq 10, 3) := by decide +kernel
theorem dX4_moveTo_27 : decode cX4_moveTo 27 = .ok (.aload_n 0, 1) := by decide +kernel
theorem dX4_moveTo_28 : decode cX4_moveTo 28 = .ok (.getfield 25, 3) := by decide +kernel
theorem dX4_moveTo_31 : decode cX4_moveTo 31 = .ok (.iload_n 3, 1) := by decide +kernel
theorem dX4_moveTo_32 : decode cX4_moveTo 32 = .ok (.iconst (-1), 1) := by decide +kernel
theorem dX4_moveTo_33 : decode cX4_moveTo 33 = .ok (.iastore, 1) := by decide +kernel
theorem dX4_moveTo_34 : decode cX4_moveTo 34 = .ok (.iload 4, 2) := by decide +kernel
theorem dX4_moveTo_36 : decode cX4_moveTo 36 = .ok (.iconst (-1), 1) := by decide +kernel
theorem dX4_moveTo_37 : decode cX4_moveTo 37 = .ok (.if_icmp .eq 11, 3) := by decide +kernel
theorem dX4_moveTo_40 : decode cX4_moveTo 40 = .ok (.aload_n 0, 1) := by decide +kernel
theorem dX4_moveTo_41 : decode cX4_moveTo 41 = .ok (.getfield 21, 3) := by decide +kernel
theorem dX4_moveTo_44 : decode cX4_moveTo 44 = .ok (.iload 4, 2) := by decide +kernel
theorem dX4_moveTo_46 : decode cX4_moveTo 46 = .ok (.iconst (-1), 1) := by decide +kernel
theorem dX4_moveTo_47 : decode cX4_moveTo 47 = .ok (.iastore, 1) := by decide +kernel
theorem dX4_moveTo_48 : decode cX4_moveTo 48 = .ok (.aload_n 0, 1) := by decide +kernel
theorem dX4_moveTo_49 : decode cX4_moveTo 49 = .ok (.iload_n 1, 1) := by decide +kernel
theorem dX4_moveTo_50 : decode cX4_moveTo 50 = .ok (.iload_n 2, 1) := by decide +kernel
theorem dX4_moveTo_51 : decode cX4_moveTo 51 = .ok (.invokevirtual 97, 3) := by decide +kernel
theorem dX4_moveTo_54 : decode cX4_moveTo 54 = .ok (.iload_n 3, 1) := by decide +kernel
theorem dX4_moveTo_55 : decode cX4_moveTo 55 = .ok (.iconst (-1), 1) := by decide +kernel
theorem dX4_moveTo_56 : decode cX4_moveTo 56 = .ok (.if_icmp .eq 19, 3) := by decide +kernel
theorem dX4_moveTo_59 : decode cX4_moveTo 59 = .ok (.iload 4, 2) := by decide +kernel
theorem dX4_moveTo_61 : decode cX4_moveTo 61 = .ok (.iconst (-1), 1) := by decide +kernel
theorem dX4_moveTo_62 : decode cX4_moveTo 62 = .ok (.if_icmp .eq 13, 3) := by decide +kernel
theorem dX4_moveTo_65 : decode cX4_moveTo 65 = .ok (.aload_n 0, 1) := by decide +kernel
theorem dX4_moveTo_66 : decode cX4_moveTo 66 = .ok (.iload_n 1, 1) := by decide +kernel
theorem dX4_moveTo_67 : decode cX4_moveTo 67 = .ok (.iconst 1, 1) := by decide +kernel
theorem dX4_moveTo_68 : decode cX4_moveTo 68 = .ok (.iadd, 1) := by decide +kernel
theorem dX4_moveTo_69 : decode cX4_moveTo 69 = .ok (.invokevirtual 86, 3) := by decide +kernel
theorem dX4_moveTo_72 : decode cX4_moveTo 72 = .ok (.ifCond .eq 5, 3) := by decide +kernel
theorem dX4_moveTo_75 : decode cX4_moveTo 75 = .ok (.iconst 1, 1) := by decide +kernel
theorem dX4_moveTo_76 : decode cX4_moveTo 76 = .ok (.ireturn, 1) := by decide +kernel
theorem dX4_moveTo_77 : decode cX4_moveTo 77 = .ok (.aload_n 0, 1) := by decide +kernel
theorem dX4_moveTo_78 : decode cX4_moveTo 78 = .ok (.iload_n 1, 1) := by decide +kernel
theorem dX4_moveTo_79 : decode cX4_moveTo 79 = .ok (.iload_n 3, 1) := by decide +kernel
theorem dX4_moveTo_80 : decode cX4_moveTo 80 = .ok (.invokevirtual 97, 3) := by decide +kernel
theorem dX4_moveTo_83 : decode cX4_moveTo 83 = .ok (.aload_n 0, 1) := by decide +kernel
theorem dX4_moveTo_84 : decode cX4_moveTo 84 = .ok (.iload 4, 2) := by decide +kernel
theorem dX4_moveTo_86 : decode cX4_moveTo 86 = .ok (.iload_n 2, 1) := by decide +kernel
theorem dX4_moveTo_87 : decode cX4_moveTo 87 = .ok (.invokevirtual 97, 3) := by decide +kernel
theorem dX4_moveTo_90 : decode cX4_moveTo 90 = .ok (.iconst 0, 1) := by decide +kernel
theorem dX4_moveTo_91 : decode cX4_moveTo 91 = .ok (.ireturn, 1) := by decide +kernel
theorem dX4_join_0 : decode cX4_join 0 = .ok (.aload_n 0, 1) := by decide +kernel
theorem dX4_join_1 : decode cX4_join 1 = .ok (.getfield 21, 3) := by decide +kernel
theorem dX4_join_4 : decode cX4_join 4 = .ok (.iload_n 1, 1) := by decide +kernel
theorem dX4_join_5 : decode cX4_join 5 = .ok (.iload_n 2, 1) := by decide +kernel
theorem dX4_join_6 : decode cX4_join 6 = .ok (.iastore, 1) := by decide +kernel
theorem dX4_join_7 : decode cX4_join 7 = .ok (.aload_n 0, 1) := by decide +kernel
theorem dX4_join_8 : decode cX4_join 8 = .ok (.getfield 25, 3) := by decide +kernel
theorem dX4_join_11 : decode cX4_join 11 = .ok (.iload_n 2, 1) := by decide +kernel
theorem dX4_join_12 : decode cX4_join 12 = .ok (.iload_n 1, 1) := by decide +kernel
theorem dX4_join_13 : decode cX4_join 13 = .ok (.iastore, 1) := by decide +kernel
theorem dX4_join_14 : decode cX4_join 14 = .ok (.return_, 1) := by decide +kernel
set_option maxRecDepth 20000 in
theorem ggX4_pairOneMore_J7_fill_53178 : GoodIn wsX4_pairOneMore wsJ7_fill_53178 := goodIn_r _ [11] (by decide +kernel) (by decide +kernel)
set_option maxRecDepth 20000 in
theorem gX4_pairOneMore_J7_fill_53178 : GoodIn wsX4_pairOneMore (va_wsS RX4 80 yJ7_fill_53178 wsJ7_fill_53178) := goodIn_app (goodIn_of _ (by decide +kernel)) ggX4_pairOneMore_J7_fill_53178
set_option maxRecDepth 20000 in
theorem ggX4_pairOneMore_X4_isKept : GoodIn wsX4_pairOneMore wsX4_isKept := goodIn_r _ [16, 7, 25, 26, 27, 28, 29, 30, 31, 32, 33, 34, 35] (by decide +kernel) (by decide +kernel)
set_option maxRecDepth 20000 in
theorem gX4_pairOneMore_X4_isKept : GoodIn wsX4_pairOneMore (wsV RX4 90 RX4 yX4_isKept wsX4_isKept) := goodIn_app (goodIn_of _ (by decide +kernel)) ggX4_pairOneMore_X4_isKept
set_option maxRecDepth 20000 in
theorem ggX4_pairOneMore_X4_joinBackFrom : GoodIn wsX4_pairOneMore wsX4_joinBackFrom := goodIn_r _ [20, 1, 3, 21, 22, 23, 15, 24, 7, 25, 26, 27, 28, 29, 30, 31, 32, 33, 34, 35] (by decide +kernel) (by decide +kernel)
set_option maxRecDepth 20000 in
theorem gX4_pairOneMore_X4_joinBackFrom : GoodIn wsX4_pairOneMore (wsV RX4 101 RX4 yX4_joinBackFrom wsX4_joinBackFrom) := goodIn_app (goodIn_of _ (by decide +kernel)) ggX4_pairOneMore_X4_joinBackFrom
theorem dX4_pairOneMore_0 : decode cX4_pairOneMore 0 = .ok (.aload_n 0, 1) := by decide +kernel
theorem dX4_pairOneMore_1 : decode cX4_pairOneMore 1 = .ok (.getfield 31, 3) := by decide +kernel
theorem dX4_pairOneMore_4 : decode cX4_pairOneMore 4 = .ok (.iconst (-1), 1) := by decide +kernel
theorem dX4_pairOneMore_5 : decode cX4_pairOneMore 5 = .ok (.invokestatic 80, 3) := by decide +kernel
theorem dX4_pairOneMore_8 : decode cX4_pairOneMore 8 = .ok (.iconst 0, 1) := by decide +kernel
theorem dX4_pairOneMore_9 : decode cX4_pairOneMore 9 = .ok (.istore_n 2, 1) := by decide +kernel
theorem dX4_pairOneMore_10 : decode cX4_pairOneMore 10 = .ok (.iload_n 1, 1) := by decide +kernel
theorem dX4_pairOneMore_11 : decode cX4_pairOneMore 11 = .ok (.istore_n 3, 1) := by decide +kernel
theorem dX4_pairOneMore_12 : decode cX4_pairOneMore 12 = .ok (.iload_n 3, 1) := by decide +kernel
theorem dX4_pairOneMore_13 : decode cX4_pairOneMore 13 = .ok (.aload_n 0, 1) := by decide +kernel
theorem dX4_pairOneMore_14 : decode cX4_pairOneMore 14 = .ok (.getfield 12, 3) := by decide +kernel
theorem dX4_pairOneMore_17 : decode cX4_pairOneMore 17 = .ok (.getfield 55, 3) := by decide +kernel
theorem dX4_pairOneMore_20 : decode cX4_pairOneMore 20 = .ok (.if_icmp .ge 29, 3) := by decide +kernel
theorem dX4_pairOneMore_23 : decode cX4_pairOneMore 23 = .ok (.aload_n 0, 1) := by decide +kernel
theorem dX4_pairOneMore_24 : decode cX4_pairOneMore 24 = .ok (.getfield 21, 3) := by decide +kernel
theorem dX4_pairOneMore_27 : decode cX4_pairOneMore 27 = .ok (.iload_n 3, 1) := by decide +kernel
theorem dX4_pairOneMore_28 : decode cX4_pairOneMore 28 = .ok (.iaload, 1) := by decide +kernel
theorem dX4_pairOneMore_29 : decode cX4_pairOneMore 29 = .ok (.iconst (-1), 1) := by decide +kernel
theorem dX4_pairOneMore_30 : decode cX4_pairOneMore 30 = .ok (.if_icmp .ne 13, 3) := by decide +kernel
theorem dX4_pairOneMore_33 : decode cX4_pairOneMore 33 = .ok (.aload_n 0, 1) := by decide +kernel
theorem dX4_pairOneMore_34 : decode cX4_pairOneMore 34 = .ok (.getfield 34, 3) := by decide +kernel
theorem dX4_pairOneMore_37 : decode cX4_pairOneMore 37 = .ok (.iload_n 2, 1) := by decide +kernel
theorem dX4_pairOneMore_38 : decode cX4_pairOneMore 38 = .ok (.iload_n 3, 1) := by decide +kernel
theorem dX4_pairOneMore_39 : decode cX4_pairOneMore 39 = .ok (.iastore, 1) := by decide +kernel
theorem dX4_pairOneMore_40 : decode cX4_pairOneMore 40 = .ok (.iinc 2 1, 3) := by decide +kernel
theorem dX4_pairOneMore_43 : decode cX4_pairOneMore 43 = .ok (.iinc 3 1, 3) := by decide +kernel
theorem dX4_pairOneMore_46 : decode cX4_pairOneMore 46 = .ok (.goto (-34), 3) := by decide +kernel
theorem dX4_pairOneMore_49 : decode cX4_pairOneMore 49 = .ok (.iconst 0, 1) := by decide +kernel
theorem dX4_pairOneMore_50 : decode cX4_pairOneMore 50 = .ok (.istore_n 3, 1) := by decide +kernel
theorem dX4_pairOneMore_51 : decode cX4_pairOneMore 51 = .ok (.iload_n 3, 1) := by decide +kernel
theorem dX4_pairOneMore_52 : decode cX4_pairOneMore 52 = .ok (.iload_n 2, 1) := by decide +kernel
theorem dX4_pairOneMore_53 : decode cX4_pairOneMore 53 = .ok (.if_icmp .ge 145, 3) := by decide +kernel
theorem dX4_pairOneMore_56 : decode cX4_pairOneMore 56 = .ok (.iload_n 3, 1) := by decide +kernel
theorem dX4_pairOneMore_57 : decode cX4_pairOneMore 57 = .ok (.bipush 20, 2) := by decide +kernel
theorem dX4_pairOneMore_59 : decode cX4_pairOneMore 59 = .ok (.if_icmp .ge 139, 3) := by decide +kernel
theorem dX4_pairOneMore_62 : decode cX4_pairOneMore 62 = .ok (.aload_n 0, 1) := by decide +kernel
theorem dX4_pairOneMore_63 : decode cX4_pairOneMore 63 = .ok (.getfield 34, 3) := by decide +kernel
theorem dX4_pairOneMore_66 : decode cX4_pairOneMore 66 = .ok (.iload_n 3, 1) := by decide +kernel
theorem dX4_pairOneMore_67 : decode cX4_pairOneMore 67 = .ok (.iaload, 1) := by decide +kernel
theorem dX4_pairOneMore_68 : decode cX4_pairOneMore 68 = .ok (.istore 4, 2) := by decide +kernel
theorem dX4_pairOneMore_70 : decode cX4_pairOneMore 70 = .ok (.iconst 0, 1) := by decide +kernel
theorem dX4_pairOneMore_71 : decode cX4_pairOneMore 71 = .ok (.istore 5, 2) := by decide +kernel
theorem dX4_pairOneMore_73 : decode cX4_pairOneMore 73 = .ok (.iload 5, 2) := by decide +kernel
theorem dX4_pairOneMore_75 : decode cX4_pairOneMore 75 = .ok (.aload_n 0, 1) := by decide +kernel
theorem dX4_pairOneMore_76 : decode cX4_pairOneMore 76 = .ok (.getfield 18, 3) := by decide +kernel
theorem dX4_pairOneMore_79 : decode cX4_pairOneMore 79 = .ok (.getfield 55, 3) := by decide +kernel
theorem dX4_pairOneMore_82 : decode cX4_pairOneMore 82 = .ok (.if_icmp .ge 110, 3) := by decide +kernel
theorem dX4_pairOneMore_85 : decode cX4_pairOneMore 85 = .ok (.aload_n 0, 1) := by decide +kernel
theorem dX4_pairOneMore_86 : decode cX4_pairOneMore 86 = .ok (.getfield 28, 3) := by decide +kernel
theorem dX4_pairOneMore_89 : decode cX4_pairOneMore 89 = .ok (.iload 4, 2) := by decide +kernel
theorem dX4_pairOneMore_91 : decode cX4_pairOneMore 91 = .ok (.iaload, 1) := by decide +kernel
theorem dX4_pairOneMore_92 : decode cX4_pairOneMore 92 = .ok (.iload 5, 2) := by decide +kernel
theorem dX4_pairOneMore_94 : decode cX4_pairOneMore 94 = .ok (.ishr, 1) := by decide +kernel
theorem dX4_pairOneMore_95 : decode cX4_pairOneMore 95 = .ok (.iconst 1, 1) := by decide +kernel
theorem dX4_pairOneMore_96 : decode cX4_pairOneMore 96 = .ok (.iand, 1) := by decide +kernel
theorem dX4_pairOneMore_97 : decode cX4_pairOneMore 97 = .ok (.ifCond .eq 7, 3) := by decide +kernel
theorem dX4_pairOneMore_100 : decode cX4_pairOneMore 100 = .ok (.iconst 1, 1) := by decide +kernel
theorem dX4_pairOneMore_101 : decode cX4_pairOneMore 101 = .ok (.goto 4, 3) := by decide +kernel
theorem dX4_pairOneMore_104 : decode cX4_pairOneMore 104 = .ok (.iconst 0, 1) := by decide +kernel
theorem dX4_pairOneMore_105 : decode cX4_pairOneMore 105 = .ok (.istore 6, 2) := by decide +kernel
theorem dX4_pairOneMore_107 : decode cX4_pairOneMore 107 = .ok (.iload 6, 2) := by decide +kernel
theorem dX4_pairOneMore_109 : decode cX4_pairOneMore 109 = .ok (.ifCond .eq 77, 3) := by decide +kernel
theorem dX4_pairOneMore_112 : decode cX4_pairOneMore 112 = .ok (.aload_n 0, 1) := by decide +kernel
theorem dX4_pairOneMore_113 : decode cX4_pairOneMore 113 = .ok (.getfield 31, 3) := by decide +kernel
theorem dX4_pairOneMore_116 : decode cX4_pairOneMore 116 = .ok (.iload 5, 2) := by decide +kernel
theorem dX4_pairOneMore_118 : decode cX4_pairOneMore 118 = .ok (.iaload, 1) := by decide +kernel
theorem dX4_pairOneMore_119 : decode cX4_pairOneMore 119 = .ok (.iconst (-1), 1) := by decide +kernel
theorem dX4_pairOneMore_120 : decode cX4_pairOneMore 120 = .ok (.if_icmp .ne 66, 3) := by decide +kernel
theorem dX4_pairOneMore_123 : decode cX4_pairOneMore 123 = .ok (.aload_n 0, 1) := by decide +kernel
theorem dX4_pairOneMore_124 : decode cX4_pairOneMore 124 = .ok (.iload 5, 2) := by decide +kernel
theorem dX4_pairOneMore_126 : decode cX4_pairOneMore 126 = .ok (.iload_n 1, 1) := by decide +kernel
theorem dX4_pairOneMore_127 : decode cX4_pairOneMore 127 = .ok (.invokevirtual 90, 3) := by decide +kernel
theorem dX4_pairOneMore_130 : decode cX4_pairOneMore 130 = .ok (.ifCond .eq 6, 3) := by decide +kernel
theorem dX4_pairOneMore_133 : decode cX4_pairOneMore 133 = .ok (.goto 53, 3) := by decide +kernel
theorem dX4_pairOneMore_136 : decode cX4_pairOneMore 136 = .ok (.aload_n 0, 1) := by decide +kernel
theorem dX4_pairOneMore_137 : decode cX4_pairOneMore 137 = .ok (.getfield 31, 3) := by decide +kernel
theorem dX4_pairOneMore_140 : decode cX4_pairOneMore 140 = .ok (.iload 5, 2) := by decide +kernel
theorem dX4_pairOneMore_142 : decode cX4_pairOneMore 142 = .ok (.iload 4, 2) := by decide +kernel
theorem dX4_pairOneMore_144 : decode cX4_pairOneMore 144 = .ok (.iastore, 1) := by decide +kernel
theorem dX4_pairOneMore_145 : decode cX4_pairOneMore 145 = .ok (.aload_n 0, 1) := by decide +kernel
theorem dX4_pairOneMore_146 : decode cX4_pairOneMore 146 = .ok (.getfield 25, 3) := by decide +kernel
theorem dX4_pairOneMore_149 : decode cX4_pairOneMore 149 = .ok (.iload 5, 2) := by decide +kernel
theorem dX4_pairOneMore_151 : decode cX4_pairOneMore 151 = .ok (.iaload, 1) := by decide +kernel
theorem dX4_pairOneMore_152 : decode cX4_pairOneMore 152 = .ok (.iconst (-1), 1) := by decide +kernel
theorem dX4_pairOneMore_153 : decode cX4_pairOneMore 153 = .ok (.if_icmp .ne 11, 3) := by decide +kernel
theorem dX4_pairOneMore_156 : decode cX4_pairOneMore 156 = .ok (.aload_n 0, 1) := by decide +kernel
theorem dX4_pairOneMore_157 : decode cX4_pairOneMore 157 = .ok (.iload 5, 2) := by decide +kernel
theorem dX4_pairOneMore_159 : decode cX4_pairOneMore 159 = .ok (.invokevirtual 101, 3) := by decide +kernel
theorem dX4_pairOneMore_162 : decode cX4_pairOneMore 162 = .ok (.iconst 1, 1) := by decide +kernel
theorem dX4_pairOneMore_163 : decode cX4_pairOneMore 163 = .ok (.ireturn, 1) := by decide +kernel
theorem dX4_pairOneMore_164 : decode cX4_pairOneMore 164 = .ok (.iload_n 2, 1) := by decide +kernel
theorem dX4_pairOneMore_165 : decode cX4_pairOneMore 165 = .ok (.bipush 20, 2) := by decide +kernel
theorem dX4_pairOneMore_167 : decode cX4_pairOneMore 167 = .ok (.if_icmp .ge 19, 3) := by decide +kernel
theorem dX4_pairOneMore_170 : decode cX4_pairOneMore 170 = .ok (.aload_n 0, 1) := by decide +kernel
theorem dX4_pairOneMore_171 : decode cX4_pairOneMore 171 = .ok (.getfield 34, 3) := by decide +kernel
theorem dX4_pairOneMore_174 : decode cX4_pairOneMore 174 = .ok (.iload_n 2, 1) := by decide +kernel
theorem dX4_pairOneMore_175 : decode cX4_pairOneMore 175 = .ok (.aload_n 0, 1) := by decide +kernel
theorem dX4_pairOneMore_176 : decode cX4_pairOneMore 176 = .ok (.getfield 25, 3) := by decide +kernel
theorem dX4_pairOneMore_179 : decode cX4_pairOneMore 179 = .ok (.iload 5, 2) := by decide +kernel
theorem dX4_pairOneMore_181 : decode cX4_pairOneMore 181 = .ok (.iaload, 1) := by decide +kernel
theorem dX4_pairOneMore_182 : decode cX4_pairOneMore 182 = .ok (.iastore, 1) := by decide +kernel
theorem dX4_pairOneMore_183 : decode cX4_pairOneMore 183 = .ok (.iinc 2 1, 3) := by decide +kernel
theorem dX4_pairOneMore_186 : decode cX4_pairOneMore 186 = .ok (.iinc 5 1, 3) := by decide +kernel
theorem dX4_pairOneMore_189 : decode cX4_pairOneMore 189 = .ok (.goto (-116), 3) := by decide +kernel
theorem dX4_pairOneMore_192 : decode cX4_pairOneMore 192 = .ok (.iinc 3 1, 3) := by decide +kernel
theorem dX4_pairOneMore_195 : decode cX4_pairOneMore 195 = .ok (.goto (-144), 3) := by decide +kernel
theorem dX4_pairOneMore_198 : decode cX4_pairOneMore 198 = .ok (.iconst 0, 1) := by decide +kernel
theorem dX4_pairOneMore_199 : decode cX4_pairOneMore 199 = .ok (.ireturn, 1) := by decide +kernel
set_option maxRecDepth 20000 in
theorem ggX4_joinBackFrom_X4_join : GoodIn wsX4_joinBackFrom wsX4_join := goodIn_r _ [7, 2, 8, 9, 10, 11, 12, 13, 14, 15, 16, 17, 18, 19] (by decide +kernel) (by decide +kernel)
set_option maxRecDepth 20000 in
theorem gX4_joinBackFrom_X4_join : GoodIn wsX4_joinBackFrom (wsV RX4 97 RX4 yX4_join wsX4_join) := goodIn_app (goodIn_of _ (by decide +kernel)) ggX4_joinBackFrom_X4_join
theorem dX4_joinBackFrom_0 : decode cX4_joinBackFrom 0 = .ok (.iload_n 1, 1) := by decide +kernel
theorem dX4_joinBackFrom_1 : decode cX4_joinBackFrom 1 = .ok (.istore_n 2, 1) := by decide +kernel
theorem dX4_joinBackFrom_2 : decode cX4_joinBackFrom 2 = .ok (.iconst 0, 1) := by decide +kernel
theorem dX4_joinBackFrom_3 : decode cX4_joinBackFrom 3 = .ok (.istore_n 3, 1) := by decide +kernel
theorem dX4_joinBackFrom_4 : decode cX4_joinBackFrom 4 = .ok (.iload_n 3, 1) := by decide +kernel
theorem dX4_joinBackFrom_5 : decode cX4_joinBackFrom 5 = .ok (.bipush 20, 2) := by decide +kernel
theorem dX4_joinBackFrom_7 : decode cX4_joinBackFrom 7 = .ok (.if_icmp .ge 41, 3) := by decide +kernel
theorem dX4_joinBackFrom_10 : decode cX4_joinBackFrom 10 = .ok (.iload_n 2, 1) := by decide +kernel
theorem dX4_joinBackFrom_11 : decode cX4_joinBackFrom 11 = .ok (.iconst (-1), 1) := by decide +kernel
theorem dX4_joinBackFrom_12 : decode cX4_joinBackFrom 12 = .ok (.if_icmp .eq 36, 3) := by decide +kernel
theorem dX4_joinBackFrom_15 : decode cX4_joinBackFrom 15 = .ok (.aload_n 0, 1) := by decide +kernel
theorem dX4_joinBackFrom_16 : decode cX4_joinBackFrom 16 = .ok (.getfield 31, 3) := by decide +kernel
theorem dX4_joinBackFrom_19 : decode cX4_joinBackFrom 19 = .ok (.iload_n 2, 1) := by decide +kernel
theorem dX4_joinBackFrom_20 : decode cX4_joinBackFrom 20 = .ok (.iaload, 1) := by decide +kernel
theorem dX4_joinBackFrom_21 : decode cX4_joinBackFrom 21 = .ok (.istore 4, 2) := by decide +kernel
theorem dX4_joinBackFrom_23 : decode cX4_joinBackFrom 23 = .ok (.aload_n 0, 1) := by decide +kernel
theorem dX4_joinBackFrom_24 : decode cX4_joinBackFrom 24 = .ok (.getfield 21, 3) := by decide +kernel
theorem dX4_joinBackFrom_27 : decode cX4_joinBackFrom 27 = .ok (.iload 4, 2) := by decide +kernel
theorem dX4_joinBackFrom_29 : decode cX4_joinBackFrom 29 = .ok (.iaload, 1) := by decide +kernel
theorem dX4_joinBackFrom_30 : decode cX4_joinBackFrom 30 = .ok (.istore 5, 2) := by decide +kernel
theorem dX4_joinBackFrom_32 : decode cX4_joinBackFrom 32 = .ok (.aload_n 0, 1) := by decide +kernel
theorem dX4_joinBackFrom_33 : decode cX4_joinBackFrom 33 = .ok (.iload 4, 2) := by decide +kernel
theorem dX4_joinBackFrom_35 : decode cX4_joinBackFrom 35 = .ok (.iload_n 2, 1) := by decide +kernel
theorem dX4_joinBackFrom_36 : decode cX4_joinBackFrom 36 = .ok (.invokevirtual 97, 3) := by decide +kernel
theorem dX4_joinBackFrom_39 : decode cX4_joinBackFrom 39 = .ok (.iload 5, 2) := by decide +kernel
theorem dX4_joinBackFrom_41 : decode cX4_joinBackFrom 41 = .ok (.istore_n 2, 1) := by decide +kernel
theorem dX4_joinBackFrom_42 : decode cX4_joinBackFrom 42 = .ok (.iinc 3 1, 3) := by decide +kernel
theorem dX4_joinBackFrom_45 : decode cX4_joinBackFrom 45 = .ok (.goto (-41), 3) := by decide +kernel
theorem dX4_joinBackFrom_48 : decode cX4_joinBackFrom 48 = .ok (.return_, 1) := by decide +kernel
theorem dX5_init_0 : decode cX5_init 0 = .ok (.aload_n 0, 1) := by decide +kernel
theorem dX5_init_1 : decode cX5_init 1 = .ok (.invokespecial 3, 3) := by decide +kernel
theorem dX5_init_4 : decode cX5_init 4 = .ok (.aload_n 0, 1) := by decide +kernel
theorem dX5_init_5 : decode cX5_init 5 = .ok (.bipush 9, 2) := by decide +kernel
theorem dX5_init_7 : decode cX5_init 7 = .ok (.newarray .long, 2) := by decide +kernel
theorem dX5_init_9 : decode cX5_init 9 = .ok (.putfield 9, 3) := by decide +kernel
theorem dX5_init_12 : decode cX5_init 12 = .ok (.aload_n 0, 1) := by decide +kernel
theorem dX5_init_13 : decode cX5_init 13 = .ok (.bipush 9, 2) := by decide +kernel
theorem dX5_init_15 : decode cX5_init 15 = .ok (.newarray .long, 2) := by decide +kernel
theorem dX5_init_17 : decode cX5_init 17 = .ok (.putfield 15, 3) := by decide +kernel
theorem dX5_init_20 : decode cX5_init 20 = .ok (.aload_n 0, 1) := by decide +kernel
theorem dX5_init_21 : decode cX5_init 21 = .ok (.bipush 9, 2) := by decide +kernel
theorem dX5_init_23 : decode cX5_init 23 = .ok (.newarray .int, 2) := by decide +kernel
theorem dX5_init_25 : decode cX5_init 25 = .ok (.putfield 18, 3) := by decide +kernel
theorem dX5_init_28 : decode cX5_init 28 = .ok (.aload_n 0, 1) := by decide +kernel
theorem dX5_init_29 : decode cX5_init 29 = .ok (.bipush 9, 2) := by decide +kernel
theorem dX5_init_31 : decode cX5_init 31 = .ok (.newarray .int, 2) := by decide +kernel
theorem dX5_init_33 : decode cX5_init 33 = .ok (.putfield 22, 3) := by decide +kernel
theorem dX5_init_36 : decode cX5_init 36 = .ok (.aload_n 0, 1) := by decide +kernel
theorem dX5_init_37 : decode cX5_init 37 = .ok (.iconst 0, 1) := by decide +kernel
theorem dX5_init_38 : decode cX5_init 38 = .ok (.putfield 25, 3) := by decide +kernel
theorem dX5_init_41 : decode cX5_init 41 = .ok (.return_, 1) := by decide +kernel
set_option maxRecDepth 20000 in
theorem ggX5_reckon_X5_begin : GoodIn wsX5_reckon wsX5_begin := goodIn_r _ [9, 2, 1, 3, 10, 11, 12, 8, 13, 14, 4, 32, 33, 34, 35, 36] (by decide +kernel) (by decide +kernel)
set_option maxRecDepth 20000 in
theorem gX5_reckon_X5_begin : GoodIn wsX5_reckon (wsV RX5 29 RX5 yX5_begin wsX5_begin) := goodIn_app (goodIn_of _ (by decide +kernel)) ggX5_reckon_X5_begin
set_option maxRecDepth 20000 in
theorem ggX5_reckon_X5_takeFactor : GoodIn wsX5_reckon wsX5_takeFactor := goodIn_r _ [18, 14, 1, 4, 19, 20, 8, 21, 22, 23, 24, 25, 26, 27, 32, 33, 34, 35, 36] (by decide +kernel) (by decide +kernel)
set_option maxRecDepth 20000 in
theorem gX5_reckon_X5_takeFactor : GoodIn wsX5_reckon (wsV RX5 32 RX5 yX5_takeFactor wsX5_takeFactor) := goodIn_app (goodIn_of _ (by decide +kernel)) ggX5_reckon_X5_takeFactor
set_option maxRecDepth 20000 in
theorem ggX5_reckon_X5_wholeSum : GoodIn wsX5_reckon wsX5_wholeSum := goodIn_r _ [31, 14, 1, 3, 2, 19, 20, 8, 21, 22, 23, 32, 33, 34, 35, 36] (by decide +kernel) (by decide +kernel)
set_option maxRecDepth 20000 in
theorem gX5_reckon_X5_wholeSum : GoodIn wsX5_reckon (wsV RX5 36 RX5 yX5_wholeSum wsX5_wholeSum) := goodIn_app (goodIn_of _ (by decide +kernel)) ggX5_reckon_X5_wholeSum
set_option maxRecDepth 20000 in
theorem ggX5_reckon_X5_beginProduct : GoodIn wsX5_reckon wsX5_beginProduct := goodIn_r _ [13, 14, 1, 4, 32, 33, 34, 35, 36] (by decide +kernel) (by decide +kernel)
set_option maxRecDepth 20000 in
theorem gX5_reckon_X5_beginProduct : GoodIn wsX5_reckon (wsV RX5 40 RX5 yX5_beginProduct wsX5_beginProduct) := goodIn_app (goodIn_of _ (by decide +kernel)) ggX5_reckon_X5_beginProduct
theorem dX5_reckon_0 : decode cX5_reckon 0 = .ok (.aload_n 0, 1) := by decide +kernel
theorem dX5_reckon_1 : decode cX5_reckon 1 = .ok (.iconst 0, 1) := by decide +kernel
theorem dX5_reckon_2 : decode cX5_reckon 2 = .ok (.putfield 25, 3) := by decide +kernel
theorem dX5_reckon_5 : decode cX5_reckon 5 = .ok (.aload_n 0, 1) := by decide +kernel
theorem dX5_reckon_6 : decode cX5_reckon 6 = .ok (.invokevirtual 29, 3) := by decide +kernel
theorem dX5_reckon_9 : decode cX5_reckon 9 = .ok (.iconst 0, 1) := by decide +kernel
theorem dX5_reckon_10 : decode cX5_reckon 10 = .ok (.istore 4, 2) := by decide +kernel
theorem dX5_reckon_12 : decode cX5_reckon 12 = .ok (.iload 4, 2) := by decide +kernel
theorem dX5_reckon_14 : decode cX5_reckon 14 = .ok (.aload_n 1, 1) := by decide +kernel
theorem dX5_reckon_15 : decode cX5_reckon 15 = .ok (.arraylength, 1) := by decide +kernel
theorem dX5_reckon_16 : decode cX5_reckon 16 = .ok (.if_icmp .ge 224, 3) := by decide +kernel
theorem dX5_reckon_19 : decode cX5_reckon 19 = .ok (.aload_n 1, 1) := by decide +kernel
theorem dX5_reckon_20 : decode cX5_reckon 20 = .ok (.iload 4, 2) := by decide +kernel
theorem dX5_reckon_22 : decode cX5_reckon 22 = .ok (.iaload, 1) := by decide +kernel
theorem dX5_reckon_23 : decode cX5_reckon 23 = .ok (.istore 5, 2) := by decide +kernel
theorem dX5_reckon_25 : decode cX5_reckon 25 = .ok (.iload 5, 2) := by decide +kernel
theorem dX5_reckon_27 : decode cX5_reckon 27 = .ok (.ineg, 1) := by decide +kernel
theorem dX5_reckon_28 : decode cX5_reckon 28 = .ok (.lookupswitch 199 #[(40, 94), (41, 120), (42, 184), (43, 152), (45, 152), (47, 184), (100, 76), (108, 85)], 76) := by decide +kernel
theorem dX5_reckon_104 : decode cX5_reckon 104 = .ok (.aload_n 0, 1) := by decide +kernel
theorem dX5_reckon_105 : decode cX5_reckon 105 = .ok (.iload_n 2, 1) := by decide +kernel
theorem dX5_reckon_106 : decode cX5_reckon 106 = .ok (.i2l, 1) := by decide +kernel
theorem dX5_reckon_107 : decode cX5_reckon 107 = .ok (.invokevirtual 32, 3) := by decide +kernel
theorem dX5_reckon_110 : decode cX5_reckon 110 = .ok (.goto 124, 3) := by decide +kernel
theorem dX5_reckon_113 : decode cX5_reckon 113 = .ok (.aload_n 0, 1) := by decide +kernel
theorem dX5_reckon_114 : decode cX5_reckon 114 = .ok (.iload_n 3, 1) := by decide +kernel
theorem dX5_reckon_115 : decode cX5_reckon 115 = .ok (.i2l, 1) := by decide +kernel
theorem dX5_reckon_116 : decode cX5_reckon 116 = .ok (.invokevirtual 32, 3) := by decide +kernel
theorem dX5_reckon_119 : decode cX5_reckon 119 = .ok (.goto 115, 3) := by decide +kernel
theorem dX5_reckon_122 : decode cX5_reckon 122 = .ok (.aload_n 0, 1) := by decide +kernel
theorem dX5_reckon_123 : decode cX5_reckon 123 = .ok (.getfield 25, 3) := by decide +kernel
theorem dX5_reckon_126 : decode cX5_reckon 126 = .ok (.bipush 8, 2) := by decide +kernel
theorem dX5_reckon_128 : decode cX5_reckon 128 = .ok (.if_icmp .ge 106, 3) := by decide +kernel
theorem dX5_reckon_131 : decode cX5_reckon 131 = .ok (.aload_n 0, 1) := by decide +kernel
theorem dX5_reckon_132 : decode cX5_reckon 132 = .ok (.dup, 1) := by decide +kernel
theorem dX5_reckon_133 : decode cX5_reckon 133 = .ok (.getfield 25, 3) := by decide +kernel
theorem dX5_reckon_136 : decode cX5_reckon 136 = .ok (.iconst 1, 1) := by decide +kernel
theorem dX5_reckon_137 : decode cX5_reckon 137 = .ok (.iadd, 1) := by decide +kernel
theorem dX5_reckon_138 : decode cX5_reckon 138 = .ok (.putfield 25, 3) := by decide +kernel
theorem dX5_reckon_141 : decode cX5_reckon 141 = .ok (.aload_n 0, 1) := by decide +kernel
theorem dX5_reckon_142 : decode cX5_reckon 142 = .ok (.invokevirtual 29, 3) := by decide +kernel
theorem dX5_reckon_145 : decode cX5_reckon 145 = .ok (.goto 89, 3) := by decide +kernel
theorem dX5_reckon_148 : decode cX5_reckon 148 = .ok (.aload_n 0, 1) := by decide +kernel
theorem dX5_reckon_149 : decode cX5_reckon 149 = .ok (.getfield 25, 3) := by decide +kernel
theorem dX5_reckon_152 : decode cX5_reckon 152 = .ok (.ifCond .le 82, 3) := by decide +kernel
theorem dX5_reckon_155 : decode cX5_reckon 155 = .ok (.aload_n 0, 1) := by decide +kernel
theorem dX5_reckon_156 : decode cX5_reckon 156 = .ok (.invokevirtual 36, 3) := by decide +kernel
theorem dX5_reckon_159 : decode cX5_reckon 159 = .ok (.lstore 6, 2) := by decide +kernel
theorem dX5_reckon_161 : decode cX5_reckon 161 = .ok (.aload_n 0, 1) := by decide +kernel
theorem dX5_reckon_162 : decode cX5_reckon 162 = .ok (.dup, 1) := by decide +kernel
theorem dX5_reckon_163 : decode cX5_reckon 163 = .ok (.getfield 25, 3) := by decide +kernel
theorem dX5_reckon_166 : decode cX5_reckon 166 = .ok (.iconst 1, 1) := by decide +kernel
theorem dX5_reckon_167 : decode cX5_reckon 167 = .ok (.isub, 1) := by decide +kernel
theorem dX5_reckon_168 : decode cX5_reckon 168 = .ok (.putfield 25, 3) := by decide +kernel
theorem dX5_reckon_171 : decode cX5_reckon 171 = .ok (.aload_n 0, 1) := by decide +kernel
theorem dX5_reckon_172 : decode cX5_reckon 172 = .ok (.lload 6, 2) := by decide +kernel
theorem dX5_reckon_174 : decode cX5_reckon 174 = .ok (.invokevirtual 32, 3) := by decide +kernel
theorem dX5_reckon_177 : decode cX5_reckon 177 = .ok (.goto 57, 3) := by decide +kernel
theorem dX5_reckon_180 : decode cX5_reckon 180 = .ok (.aload_n 0, 1) := by decide +kernel
theorem dX5_reckon_181 : decode cX5_reckon 181 = .ok (.getfield 9, 3) := by decide +kernel
theorem dX5_reckon_184 : decode cX5_reckon 184 = .ok (.aload_n 0, 1) := by decide +kernel
theorem dX5_reckon_185 : decode cX5_reckon 185 = .ok (.getfield 25, 3) := by decide +kernel
theorem dX5_reckon_188 : decode cX5_reckon 188 = .ok (.aload_n 0, 1) := by decide +kernel
theorem dX5_reckon_189 : decode cX5_reckon 189 = .ok (.invokevirtual 36, 3) := by decide +kernel
theorem dX5_reckon_192 : decode cX5_reckon 192 = .ok (.lastore, 1) := by decide +kernel
theorem dX5_reckon_193 : decode cX5_reckon 193 = .ok (.aload_n 0, 1) := by decide +kernel
theorem dX5_reckon_194 : decode cX5_reckon 194 = .ok (.getfield 18, 3) := by decide +kernel
theorem dX5_reckon_197 : decode cX5_reckon 197 = .ok (.aload_n 0, 1) := by decide +kernel
theorem dX5_reckon_198 : decode cX5_reckon 198 = .ok (.getfield 25, 3) := by decide +kernel
theorem dX5_reckon_201 : decode cX5_reckon 201 = .ok (.iload 5, 2) := by decide +kernel
theorem dX5_reckon_203 : decode cX5_reckon 203 = .ok (.ineg, 1) := by decide +kernel
theorem dX5_reckon_204 : decode cX5_reckon 204 = .ok (.iastore, 1) := by decide +kernel
theorem dX5_reckon_205 : decode cX5_reckon 205 = .ok (.aload_n 0, 1) := by decide +kernel
theorem dX5_reckon_206 : decode cX5_reckon 206 = .ok (.invokevirtual 40, 3) := by decide +kernel
theorem dX5_reckon_209 : decode cX5_reckon 209 = .ok (.goto 25, 3) := by decide +kernel
theorem dX5_reckon_212 : decode cX5_reckon 212 = .ok (.aload_n 0, 1) := by decide +kernel
theorem dX5_reckon_213 : decode cX5_reckon 213 = .ok (.getfield 22, 3) := by decide +kernel
theorem dX5_reckon_216 : decode cX5_reckon 216 = .ok (.aload_n 0, 1) := by decide +kernel
theorem dX5_reckon_217 : decode cX5_reckon 217 = .ok (.getfield 25, 3) := by decide +kernel
theorem dX5_reckon_220 : decode cX5_reckon 220 = .ok (.iload 5, 2) := by decide +kernel
theorem dX5_reckon_222 : decode cX5_reckon 222 = .ok (.ineg, 1) := by decide +kernel
theorem dX5_reckon_223 : decode cX5_reckon 223 = .ok (.iastore, 1) := by decide +kernel
theorem dX5_reckon_224 : decode cX5_reckon 224 = .ok (.goto 10, 3) := by decide +kernel
theorem dX5_reckon_227 : decode cX5_reckon 227 = .ok (.aload_n 0, 1) := by decide +kernel
theorem dX5_reckon_228 : decode cX5_reckon 228 = .ok (.iload 5, 2) := by decide +kernel
theorem dX5_reckon_230 : decode cX5_reckon 230 = .ok (.i2l, 1) := by decide +kernel
theorem dX5_reckon_231 : decode cX5_reckon 231 = .ok (.invokevirtual 32, 3) := by decide +kernel
theorem dX5_reckon_234 : decode cX5_reckon 234 = .ok (.iinc 4 1, 3) := by decide +kernel
theorem dX5_reckon_237 : decode cX5_reckon 237 = .ok (.goto (-225), 3) := by decide +kernel
theorem dX5_reckon_240 : decode cX5_reckon 240 = .ok (.aload_n 0, 1) := by decide +kernel
theorem dX5_reckon_241 : decode cX5_reckon 241 = .ok (.invokevirtual 36, 3) := by decide +kernel
theorem dX5_reckon_244 : decode cX5_reckon 244 = .ok (.lreturn, 1) := by decide +kernel
set_option maxRecDepth 20000 in
theorem ggX5_begin_X5_beginProduct : GoodIn wsX5_begin wsX5_beginProduct := goodIn_r _ [8, 9, 2, 10, 11, 12, 13, 14, 15] (by decide +kernel) (by decide +kernel)
set_option maxRecDepth 20000 in
theorem gX5_begin_X5_beginProduct : GoodIn wsX5_begin (wsV RX5 40 RX5 yX5_beginProduct wsX5_beginProduct) := goodIn_app (goodIn_of _ (by decide +kernel)) ggX5_begin_X5_beginProduct
theorem dX5_begin_0 : decode cX5_begin 0 = .ok (.aload_n 0, 1) := by decide +kernel
theorem dX5_begin_1 : decode cX5_begin 1 = .ok (.getfield 9, 3) := by decide +kernel
theorem dX5_begin_4 : decode cX5_begin 4 = .ok (.aload_n 0, 1) := by decide +kernel
theorem dX5_begin_5 : decode cX5_begin 5 = .ok (.getfield 25, 3) := by decide +kernel
theorem dX5_begin_8 : decode cX5_begin 8 = .ok (.lconst 0, 1) := by decide +kernel
theorem dX5_begin_9 : decode cX5_begin 9 = .ok (.lastore, 1) := by decide +kernel
theorem dX5_begin_10 : decode cX5_begin 10 = .ok (.aload_n 0, 1) := by decide +kernel
theorem dX5_begin_11 : decode cX5_begin 11 = .ok (.getfield 18, 3) := by decide +kernel
theorem dX5_begin_14 : decode cX5_begin 14 = .ok (.aload_n 0, 1) := by decide +kernel
theorem dX5_begin_15 : decode cX5_begin 15 = .ok (.getfield 25, 3) := by decide +kernel
theorem dX5_begin_18 : decode cX5_begin 18 = .ok (.bipush 43, 2) := by decide +kernel
theorem dX5_begin_20 : decode cX5_begin 20 = .ok (.iastore, 1) := by decide +kernel
theorem dX5_begin_21 : decode cX5_begin 21 = .ok (.aload_n 0, 1) := by decide +kernel
theorem dX5_begin_22 : decode cX5_begin 22 = .ok (.invokevirtual 40, 3) := by decide +kernel
theorem dX5_begin_25 : decode cX5_begin 25 = .ok (.return_, 1) := by decide +kernel
theorem dX5_beginProduct_0 : decode cX5_beginProduct 0 = .ok (.aload_n 0, 1) := by decide +kernel
theorem dX5_beginProduct_1 : decode cX5_beginProduct 1 = .ok (.getfield 15, 3) := by decide +kernel
theorem dX5_beginProduct_4 : decode cX5_beginProduct 4 = .ok (.aload_n 0, 1) := by decide +kernel
theorem dX5_beginProduct_5 : decode cX5_beginProduct 5 = .ok (.getfield 25, 3) := by decide +kernel
theorem dX5_beginProduct_8 : decode cX5_beginProduct 8 = .ok (.lconst 1, 1) := by decide +kernel
theorem dX5_beginProduct_9 : decode cX5_beginProduct 9 = .ok (.lastore, 1) := by decide +kernel
theorem dX5_beginProduct_10 : decode cX5_beginProduct 10 = .ok (.aload_n 0, 1) := by decide +kernel
theorem dX5_beginProduct_11 : decode cX5_beginProduct 11 = .ok (.getfield 22, 3) := by decide +kernel
theorem dX5_beginProduct_14 : decode cX5_beginProduct 14 = .ok (.aload_n 0, 1) := by decide +kernel
theorem dX5_beginProduct_15 : decode cX5_beginProduct 15 = .ok (.getfield 25, 3) := by decide +kernel
theorem dX5_beginProduct_18 : decode cX5_beginProduct 18 = .ok (.bipush 42, 2) := by decide +kernel
theorem dX5_beginProduct_20 : decode cX5_beginProduct 20 = .ok (.iastore, 1) := by decide +kernel
theorem dX5_beginProduct_21 : decode cX5_beginProduct 21 = .ok (.return_, 1) := by decide +kernel
set_option maxRecDepth 20000 in
theorem ggX5_takeFactor_X5_bounded : GoodIn wsX5_takeFactor wsX5_bounded := goodIn_r _ [7, 8, 9] (by decide +kernel) (by decide +kernel)
set_option maxRecDepth 20000 in
theorem gX5_takeFactor_X5_bounded : GoodIn wsX5_takeFactor (va_wsS RX5 43 yX5_bounded wsX5_bounded) := goodIn_app (goodIn_of _ (by decide +kernel)) ggX5_takeFactor_X5_bounded
set_option maxRecDepth 20000 in
theorem ggX5_takeFactor_J9_floorDiv_f86c9 : GoodIn wsX5_takeFactor wsJ9_floorDiv_f86c9 := goodIn_r _ [13] (by decide +kernel) (by decide +kernel)
set_option maxRecDepth 20000 in
theorem gX5_takeFactor_J9_floorDiv_f86c9 : GoodIn wsX5_takeFactor (va_wsS RX5 47 yJ9_floorDiv_f86c9 wsJ9_floorDiv_f86c9) := goodIn_app (goodIn_of _ (by decide +kernel)) ggX5_takeFactor_J9_floorDiv_f86c9
theorem dX5_takeFactor_0 : decode cX5_takeFactor 0 = .ok (.aload_n 0, 1) := by decide +kernel
theorem dX5_takeFactor_1 : decode cX5_takeFactor 1 = .ok (.getfield 15, 3) := by decide +kernel
theorem dX5_takeFactor_4 : decode cX5_takeFactor 4 = .ok (.aload_n 0, 1) := by decide +kernel
theorem dX5_takeFactor_5 : decode cX5_takeFactor 5 = .ok (.getfield 25, 3) := by decide +kernel
theorem dX5_takeFactor_8 : decode cX5_takeFactor 8 = .ok (.laload, 1) := by decide +kernel
theorem dX5_takeFactor_9 : decode cX5_takeFactor 9 = .ok (.lstore_n 3, 1) := by decide +kernel
theorem dX5_takeFactor_10 : decode cX5_takeFactor 10 = .ok (.aload_n 0, 1) := by decide +kernel
theorem dX5_takeFactor_11 : decode cX5_takeFactor 11 = .ok (.getfield 22, 3) := by decide +kernel
theorem dX5_takeFactor_14 : decode cX5_takeFactor 14 = .ok (.aload_n 0, 1) := by decide +kernel
theorem dX5_takeFactor_15 : decode cX5_takeFactor 15 = .ok (.getfield 25, 3) := by decide +kernel
theorem dX5_takeFactor_18 : decode cX5_takeFactor 18 = .ok (.iaload, 1) := by decide +kernel
theorem dX5_takeFactor_19 : decode cX5_takeFactor 19 = .ok (.bipush 42, 2) := by decide +kernel
theorem dX5_takeFactor_21 : decode cX5_takeFactor 21 = .ok (.if_icmp .ne 21, 3) := by decide +kernel
theorem dX5_takeFactor_24 : decode cX5_takeFactor 24 = .ok (.aload_n 0, 1) := by decide +kernel
theorem dX5_takeFactor_25 : decode cX5_takeFactor 25 = .ok (.getfield 15, 3) := by decide +kernel
theorem dX5_takeFactor_28 : decode cX5_takeFactor 28 = .ok (.aload_n 0, 1) := by decide +kernel
theorem dX5_takeFactor_29 : decode cX5_takeFactor 29 = .ok (.getfield 25, 3) := by decide +kernel
theorem dX5_takeFactor_32 : decode cX5_takeFactor 32 = .ok (.lload_n 3, 1) := by decide +kernel
theorem dX5_takeFactor_33 : decode cX5_takeFactor 33 = .ok (.lload_n 1, 1) := by decide +kernel
theorem dX5_takeFactor_34 : decode cX5_takeFactor 34 = .ok (.lmul, 1) := by decide +kernel
theorem dX5_takeFactor_35 : decode cX5_takeFactor 35 = .ok (.invokestatic 43, 3) := by decide +kernel
theorem dX5_takeFactor_38 : decode cX5_takeFactor 38 = .ok (.lastore, 1) := by decide +kernel
theorem dX5_takeFactor_39 : decode cX5_takeFactor 39 = .ok (.goto 39, 3) := by decide +kernel
theorem dX5_takeFactor_42 : decode cX5_takeFactor 42 = .ok (.lload_n 1, 1) := by decide +kernel
theorem dX5_takeFactor_43 : decode cX5_takeFactor 43 = .ok (.lconst 0, 1) := by decide +kernel
theorem dX5_takeFactor_44 : decode cX5_takeFactor 44 = .ok (.lcmp, 1) := by decide +kernel
theorem dX5_takeFactor_45 : decode cX5_takeFactor 45 = .ok (.ifCond .ne 16, 3) := by decide +kernel
theorem dX5_takeFactor_48 : decode cX5_takeFactor 48 = .ok (.aload_n 0, 1) := by decide +kernel
theorem dX5_takeFactor_49 : decode cX5_takeFactor 49 = .ok (.getfield 15, 3) := by decide +kernel
theorem dX5_takeFactor_52 : decode cX5_takeFactor 52 = .ok (.aload_n 0, 1) := by decide +kernel
theorem dX5_takeFactor_53 : decode cX5_takeFactor 53 = .ok (.getfield 25, 3) := by decide +kernel
theorem dX5_takeFactor_56 : decode cX5_takeFactor 56 = .ok (.lconst 0, 1) := by decide +kernel
theorem dX5_takeFactor_57 : decode cX5_takeFactor 57 = .ok (.lastore, 1) := by decide +kernel
theorem dX5_takeFactor_58 : decode cX5_takeFactor 58 = .ok (.goto 20, 3) := by decide +kernel
theorem dX5_takeFactor_61 : decode cX5_takeFactor 61 = .ok (.aload_n 0, 1) := by decide +kernel
theorem dX5_takeFactor_62 : decode cX5_takeFactor 62 = .ok (.getfield 15, 3) := by decide +kernel
theorem dX5_takeFactor_65 : decode cX5_takeFactor 65 = .ok (.aload_n 0, 1) := by decide +kernel
theorem dX5_takeFactor_66 : decode cX5_takeFactor 66 = .ok (.getfield 25, 3) := by decide +kernel
theorem dX5_takeFactor_69 : decode cX5_takeFactor 69 = .ok (.lload_n 3, 1) := by decide +kernel
theorem dX5_takeFactor_70 : decode cX5_takeFactor 70 = .ok (.lload_n 1, 1) := by decide +kernel
theorem dX5_takeFactor_71 : decode cX5_takeFactor 71 = .ok (.invokestatic 47, 3) := by decide +kernel
theorem dX5_takeFactor_74 : decode cX5_takeFactor 74 = .ok (.invokestatic 43, 3) := by decide +kernel
theorem dX5_takeFactor_77 : decode cX5_takeFactor 77 = .ok (.lastore, 1) := by decide +kernel
theorem dX5_takeFactor_78 : decode cX5_takeFactor 78 = .ok (.return_, 1) := by decide +kernel
set_option maxRecDepth 20000 in
theorem ggX5_wholeSum_X5_bounded : GoodIn wsX5_wholeSum wsX5_bounded := goodIn_r _ [8, 9, 10] (by decide +kernel) (by decide +kernel)
set_option maxRecDepth 20000 in
theorem gX5_wholeSum_X5_bounded : GoodIn wsX5_wholeSum (va_wsS RX5 43 yX5_bounded wsX5_bounded) := goodIn_app (goodIn_of _ (by decide +kernel)) ggX5_wholeSum_X5_bounded
theorem dX5_wholeSum_0 : decode cX5_wholeSum 0 = .ok (.aload_n 0, 1) := by decide +kernel
theorem dX5_wholeSum_1 : decode cX5_wholeSum 1 = .ok (.getfield 15, 3) := by decide +kernel
theorem dX5_wholeSum_4 : decode cX5_wholeSum 4 = .ok (.aload_n 0, 1) := by decide +kernel
theorem dX5_wholeSum_5 : decode cX5_wholeSum 5 = .ok (.getfield 25, 3) := by decide +kernel
theorem dX5_wholeSum_8 : decode cX5_wholeSum 8 = .ok (.laload, 1) := by decide +kernel
theorem dX5_wholeSum_9 : decode cX5_wholeSum 9 = .ok (.lstore_n 1, 1) := by decide +kernel
theorem dX5_wholeSum_10 : decode cX5_wholeSum 10 = .ok (.aload_n 0, 1) := by decide +kernel
theorem dX5_wholeSum_11 : decode cX5_wholeSum 11 = .ok (.getfield 18, 3) := by decide +kernel
theorem dX5_wholeSum_14 : decode cX5_wholeSum 14 = .ok (.aload_n 0, 1) := by decide +kernel
theorem dX5_wholeSum_15 : decode cX5_wholeSum 15 = .ok (.getfield 25, 3) := by decide +kernel
theorem dX5_wholeSum_18 : decode cX5_wholeSum 18 = .ok (.iaload, 1) := by decide +kernel
theorem dX5_wholeSum_19 : decode cX5_wholeSum 19 = .ok (.bipush 43, 2) := by decide +kernel
theorem dX5_wholeSum_21 : decode cX5_wholeSum 21 = .ok (.if_icmp .ne 17, 3) := by decide +kernel
theorem dX5_wholeSum_24 : decode cX5_wholeSum 24 = .ok (.aload_n 0, 1) := by decide +kernel
theorem dX5_wholeSum_25 : decode cX5_wholeSum 25 = .ok (.getfield 9, 3) := by decide +kernel
theorem dX5_wholeSum_28 : decode cX5_wholeSum 28 = .ok (.aload_n 0, 1) := by decide +kernel
theorem dX5_wholeSum_29 : decode cX5_wholeSum 29 = .ok (.getfield 25, 3) := by decide +kernel
theorem dX5_wholeSum_32 : decode cX5_wholeSum 32 = .ok (.laload, 1) := by decide +kernel
theorem dX5_wholeSum_33 : decode cX5_wholeSum 33 = .ok (.lload_n 1, 1) := by decide +kernel
theorem dX5_wholeSum_34 : decode cX5_wholeSum 34 = .ok (.ladd, 1) := by decide +kernel
theorem dX5_wholeSum_35 : decode cX5_wholeSum 35 = .ok (.goto 14, 3) := by decide +kernel
theorem dX5_wholeSum_38 : decode cX5_wholeSum 38 = .ok (.aload_n 0, 1) := by decide +kernel
theorem dX5_wholeSum_39 : decode cX5_wholeSum 39 = .ok (.getfield 9, 3) := by decide +kernel
theorem dX5_wholeSum_42 : decode cX5_wholeSum 42 = .ok (.aload_n 0, 1) := by decide +kernel
theorem dX5_wholeSum_43 : decode cX5_wholeSum 43 = .ok (.getfield 25, 3) := by decide +kernel
theorem dX5_wholeSum_46 : decode cX5_wholeSum 46 = .ok (.laload, 1) := by decide +kernel
theorem dX5_wholeSum_47 : decode cX5_wholeSum 47 = .ok (.lload_n 1, 1) := by decide +kernel
theorem dX5_wholeSum_48 : decode cX5_wholeSum 48 = .ok (.lsub, 1) := by decide +kernel
theorem dX5_wholeSum_49 : decode cX5_wholeSum 49 = .ok (.invokestatic 43, 3) := by decide +kernel
theorem dX5_wholeSum_52 : decode cX5_wholeSum 52 = .ok (.lreturn, 1) := by decide +kernel
theorem dX5_bounded_0 : decode cX5_bounded 0 = .ok (.lload_n 0, 1) := by decide +kernel
theorem dX5_bounded_1 : decode cX5_bounded 1 = .ok (.ldc2_w 53, 3) := by decide +kernel
theorem dX5_bounded_4 : decode cX5_bounded 4 = .ok (.lcmp, 1) := by decide +kernel
theorem dX5_bounded_5 : decode cX5_bounded 5 = .ok (.ifCond .le 7, 3) := by decide +kernel
theorem dX5_bounded_8 : decode cX5_bounded 8 = .ok (.ldc2_w 53, 3) := by decide +kernel
theorem dX5_bounded_11 : decode cX5_bounded 11 = .ok (.lreturn, 1) := by decide +kernel
theorem dX5_bounded_12 : decode cX5_bounded 12 = .ok (.lload_n 0, 1) := by decide +kernel
theorem dX5_bounded_13 : decode cX5_bounded 13 = .ok (.ldc2_w 55, 3) := by decide +kernel
theorem dX5_bounded_16 : decode cX5_bounded 16 = .ok (.lcmp, 1) := by decide +kernel
theorem dX5_bounded_17 : decode cX5_bounded 17 = .ok (.ifCond .ge 9, 3) := by decide +kernel
theorem dX5_bounded_20 : decode cX5_bounded 20 = .ok (.ldc2_w 55, 3) := by decide +kernel
theorem dX5_bounded_23 : decode cX5_bounded 23 = .ok (.goto 4, 3) := by decide +kernel
theorem dX5_bounded_26 : decode cX5_bounded 26 = .ok (.lload_n 0, 1) := by decide +kernel
theorem dX5_bounded_27 : decode cX5_bounded 27 = .ok (.lreturn, 1) := by decide +kernel
theorem dX6_init_0 : decode cX6_init 0 = .ok (.aload_n 0, 1) := by decide +kernel
theorem dX6_init_1 : decode cX6_init 1 = .ok (.invokespecial 3, 3) := by decide +kernel
theorem dX6_init_4 : decode cX6_init 4 = .ok (.aload_n 0, 1) := by decide +kernel
theorem dX6_init_5 : decode cX6_init 5 = .ok (.iconst 0, 1) := by decide +kernel
theorem dX6_init_6 : decode cX6_init 6 = .ok (.putfield 9, 3) := by decide +kernel
theorem dX6_init_9 : decode cX6_init 9 = .ok (.aload_n 0, 1) := by decide +kernel
theorem dX6_init_10 : decode cX6_init 10 = .ok (.iload_n 1, 1) := by decide +kernel
theorem dX6_init_11 : decode cX6_init 11 = .ok (.newarray .int, 2) := by decide +kernel
theorem dX6_init_13 : decode cX6_init 13 = .ok (.putfield 15, 3) := by decide +kernel
theorem dX6_init_16 : decode cX6_init 16 = .ok (.aload_n 0, 1) := by decide +kernel
theorem dX6_init_17 : decode cX6_init 17 = .ok (.iload_n 1, 1) := by decide +kernel
theorem dX6_init_18 : decode cX6_init 18 = .ok (.newarray .int, 2) := by decide +kernel
theorem dX6_init_20 : decode cX6_init 20 = .ok (.putfield 19, 3) := by decide +kernel
theorem dX6_init_23 : decode cX6_init 23 = .ok (.aload_n 0, 1) := by decide +kernel
theorem dX6_init_24 : decode cX6_init 24 = .ok (.iload_n 1, 1) := by decide +kernel
theorem dX6_init_25 : decode cX6_init 25 = .ok (.newarray .int, 2) := by decide +kernel
theorem dX6_init_27 : decode cX6_init 27 = .ok (.putfield 22, 3) := by decide +kernel
theorem dX6_init_30 : decode cX6_init 30 = .ok (.return_, 1) := by decide +kernel
theorem dX6_isFull_0 : decode cX6_isFull 0 = .ok (.aload_n 0, 1) := by decide +kernel
theorem dX6_isFull_1 : decode cX6_isFull 1 = .ok (.getfield 9, 3) := by decide +kernel
theorem dX6_isFull_4 : decode cX6_isFull 4 = .ok (.aload_n 0, 1) := by decide +kernel
theorem dX6_isFull_5 : decode cX6_isFull 5 = .ok (.getfield 15, 3) := by decide +kernel
theorem dX6_isFull_8 : decode cX6_isFull 8 = .ok (.arraylength, 1) := by decide +kernel
theorem dX6_isFull_9 : decode cX6_isFull 9 = .ok (.if_icmp .lt 7, 3) := by decide +kernel
theorem dX6_isFull_12 : decode cX6_isFull 12 = .ok (.iconst 1, 1) := by decide +kernel
theorem dX6_isFull_13 : decode cX6_isFull 13 = .ok (.goto 4, 3) := by decide +kernel
theorem dX6_isFull_16 : decode cX6_isFull 16 = .ok (.iconst 0, 1) := by decide +kernel
theorem dX6_isFull_17 : decode cX6_isFull 17 = .ok (.ireturn, 1) := by decide +kernel
theorem dX6_enter_0 : decode cX6_enter 0 = .ok (.aload_n 0, 1) := by decide +kernel
theorem dX6_enter_1 : decode cX6_enter 1 = .ok (.getfield 15, 3) := by decide +kernel
theorem dX6_enter_4 : decode cX6_enter 4 = .ok (.aload_n 0, 1) := by decide +kernel
theorem dX6_enter_5 : decode cX6_enter 5 = .ok (.getfield 9, 3) := by decide +kernel
theorem dX6_enter_8 : decode cX6_enter 8 = .ok (.iload_n 1, 1) := by decide +kernel
theorem dX6_enter_9 : decode cX6_enter 9 = .ok (.iastore, 1) := by decide +kernel
theorem dX6_enter_10 : decode cX6_enter 10 = .ok (.aload_n 0, 1) := by decide +kernel
theorem dX6_enter_11 : decode cX6_enter 11 = .ok (.getfield 19, 3) := by decide +kernel
theorem dX6_enter_14 : decode cX6_enter 14 = .ok (.aload_n 0, 1) := by decide +kernel
theorem dX6_enter_15 : decode cX6_enter 15 = .ok (.getfield 9, 3) := by decide +kernel
theorem dX6_enter_18 : decode cX6_enter 18 = .ok (.iload_n 2, 1) := by decide +kernel
theorem dX6_enter_19 : decode cX6_enter 19 = .ok (.iastore, 1) := by decide +kernel
theorem dX6_enter_20 : decode cX6_enter 20 = .ok (.aload_n 0, 1) := by decide +kernel
theorem dX6_enter_21 : decode cX6_enter 21 = .ok (.getfield 22, 3) := by decide +kernel
theorem dX6_enter_24 : decode cX6_enter 24 = .ok (.aload_n 0, 1) := by decide +kernel
theorem dX6_enter_25 : decode cX6_enter 25 = .ok (.getfield 9, 3) := by decide +kernel
theorem dX6_enter_28 : decode cX6_enter 28 = .ok (.iload_n 3, 1) := by decide +kernel
theorem dX6_enter_29 : decode cX6_enter 29 = .ok (.iastore, 1) := by decide +kernel
theorem dX6_enter_30 : decode cX6_enter 30 = .ok (.aload_n 0, 1) := by decide +kernel
theorem dX6_enter_31 : decode cX6_enter 31 = .ok (.dup, 1) := by decide +kernel
theorem dX6_enter_32 : decode cX6_enter 32 = .ok (.getfield 9, 3) := by decide +kernel
theorem dX6_enter_35 : decode cX6_enter 35 = .ok (.dup_x1, 1) := by decide +kernel
theorem dX6_enter_36 : decode cX6_enter 36 = .ok (.iconst 1, 1) := by decide +kernel
theorem dX6_enter_37 : decode cX6_enter 37 = .ok (.iadd, 1) := by decide +kernel
theorem dX6_enter_38 : decode cX6_enter 38 = .ok (.putfield 9, 3) := by decide +kernel
theorem dX6_enter_41 : decode cX6_enter 41 = .ok (.ireturn, 1) := by decide +kernel
theorem dX6_inForce_0 : decode cX6_inForce 0 = .ok (.iconst (-1), 1) := by decide +kernel
theorem dX6_inForce_1 : decode cX6_inForce 1 = .ok (.istore 4, 2) := by decide +kernel
theorem dX6_inForce_3 : decode cX6_inForce 3 = .ok (.iconst 0, 1) := by decide +kernel
theorem dX6_inForce_4 : decode cX6_inForce 4 = .ok (.istore 5, 2) := by decide +kernel
theorem dX6_inForce_6 : decode cX6_inForce 6 = .ok (.iload 5, 2) := by decide +kernel
theorem dX6_inForce_8 : decode cX6_inForce 8 = .ok (.aload_n 0, 1) := by decide +kernel
theorem dX6_inForce_9 : decode cX6_inForce 9 = .ok (.getfield 9, 3) := by decide +kernel
theorem dX6_inForce_12 : decode cX6_inForce 12 = .ok (.if_icmp .ge 81, 3) := by decide +kernel
theorem dX6_inForce_15 : decode cX6_inForce 15 = .ok (.aload_n 0, 1) := by decide +kernel
theorem dX6_inForce_16 : decode cX6_inForce 16 = .ok (.getfield 15, 3) := by decide +kernel
theorem dX6_inForce_19 : decode cX6_inForce 19 = .ok (.iload 5, 2) := by decide +kernel
theorem dX6_inForce_21 : decode cX6_inForce 21 = .ok (.iaload, 1) := by decide +kernel
theorem dX6_inForce_22 : decode cX6_inForce 22 = .ok (.iload_n 1, 1) := by decide +kernel
theorem dX6_inForce_23 : decode cX6_inForce 23 = .ok (.if_icmp .ne 29, 3) := by decide +kernel
theorem dX6_inForce_26 : decode cX6_inForce 26 = .ok (.aload_n 0, 1) := by decide +kernel
theorem dX6_inForce_27 : decode cX6_inForce 27 = .ok (.getfield 22, 3) := by decide +kernel
theorem dX6_inForce_30 : decode cX6_inForce 30 = .ok (.iload 5, 2) := by decide +kernel
theorem dX6_inForce_32 : decode cX6_inForce 32 = .ok (.iaload, 1) := by decide +kernel
theorem dX6_inForce_33 : decode cX6_inForce 33 = .ok (.iload_n 3, 1) := by decide +kernel
theorem dX6_inForce_34 : decode cX6_inForce 34 = .ok (.if_icmp .gt 18, 3) := by decide +kernel
theorem dX6_inForce_37 : decode cX6_inForce 37 = .ok (.aload_n 0, 1) := by decide +kernel
theorem dX6_inForce_38 : decode cX6_inForce 38 = .ok (.getfield 19, 3) := by decide +kernel
theorem dX6_inForce_41 : decode cX6_inForce 41 = .ok (.iload 5, 2) := by decide +kernel
theorem dX6_inForce_43 : decode cX6_inForce 43 = .ok (.iaload, 1) := by decide +kernel
theorem dX6_inForce_44 : decode cX6_inForce 44 = .ok (.iload_n 2, 1) := by decide +kernel
theorem dX6_inForce_45 : decode cX6_inForce 45 = .ok (.if_icmp .gt 7, 3) := by decide +kernel
theorem dX6_inForce_48 : decode cX6_inForce 48 = .ok (.iconst 1, 1) := by decide +kernel
theorem dX6_inForce_49 : decode cX6_inForce 49 = .ok (.goto 4, 3) := by decide +kernel
theorem dX6_inForce_52 : decode cX6_inForce 52 = .ok (.iconst 0, 1) := by decide +kernel
theorem dX6_inForce_53 : decode cX6_inForce 53 = .ok (.istore 6, 2) := by decide +kernel
theorem dX6_inForce_55 : decode cX6_inForce 55 = .ok (.iload 6, 2) := by decide +kernel
theorem dX6_inForce_57 : decode cX6_inForce 57 = .ok (.ifCond .eq 30, 3) := by decide +kernel
theorem dX6_inForce_60 : decode cX6_inForce 60 = .ok (.iload 4, 2) := by decide +kernel
theorem dX6_inForce_62 : decode cX6_inForce 62 = .ok (.iconst (-1), 1) := by decide +kernel
theorem dX6_inForce_63 : decode cX6_inForce 63 = .ok (.if_icmp .eq 20, 3) := by decide +kernel
theorem dX6_inForce_66 : decode cX6_inForce 66 = .ok (.aload_n 0, 1) := by decide +kernel
theorem dX6_inForce_67 : decode cX6_inForce 67 = .ok (.getfield 19, 3) := by decide +kernel
theorem dX6_inForce_70 : decode cX6_inForce 70 = .ok (.iload 5, 2) := by decide +kernel
theorem dX6_inForce_72 : decode cX6_inForce 72 = .ok (.iaload, 1) := by decide +kernel
theorem dX6_inForce_73 : decode cX6_inForce 73 = .ok (.aload_n 0, 1) := by decide +kernel
theorem dX6_inForce_74 : decode cX6_inForce 74 = .ok (.getfield 19, 3) := by decide +kernel
theorem dX6_inForce_77 : decode cX6_inForce 77 = .ok (.iload 4, 2) := by decide +kernel
theorem dX6_inForce_79 : decode cX6_inForce 79 = .ok (.iaload, 1) := by decide +kernel
theorem dX6_inForce_80 : decode cX6_inForce 80 = .ok (.if_icmp .lt 7, 3) := by decide +kernel
theorem dX6_inForce_83 : decode cX6_inForce 83 = .ok (.iload 5, 2) := by decide +kernel
theorem dX6_inForce_85 : decode cX6_inForce 85 = .ok (.istore 4, 2) := by decide +kernel
theorem dX6_inForce_87 : decode cX6_inForce 87 = .ok (.iinc 5 1, 3) := by decide +kernel
theorem dX6_inForce_90 : decode cX6_inForce 90 = .ok (.goto (-84), 3) := by decide +kernel
theorem dX6_inForce_93 : decode cX6_inForce 93 = .ok (.iload 4, 2) := by decide +kernel
theorem dX6_inForce_95 : decode cX6_inForce 95 = .ok (.ireturn, 1) := by decide +kernel
theorem dX7_init_0 : decode cX7_init 0 = .ok (.aload_n 0, 1) := by decide +kernel
theorem dX7_init_1 : decode cX7_init 1 = .ok (.invokespecial 3, 3) := by decide +kernel
theorem dX7_init_4 : decode cX7_init 4 = .ok (.aload_n 0, 1) := by decide +kernel
theorem dX7_init_5 : decode cX7_init 5 = .ok (.bipush 20, 2) := by decide +kernel
theorem dX7_init_7 : decode cX7_init 7 = .ok (.newarray .int, 2) := by decide +kernel
theorem dX7_init_9 : decode cX7_init 9 = .ok (.putfield 9, 3) := by decide +kernel
theorem dX7_init_12 : decode cX7_init 12 = .ok (.aload_n 0, 1) := by decide +kernel
theorem dX7_init_13 : decode cX7_init 13 = .ok (.bipush 20, 2) := by decide +kernel
theorem dX7_init_15 : decode cX7_init 15 = .ok (.newarray .int, 2) := by decide +kernel
theorem dX7_init_17 : decode cX7_init 17 = .ok (.putfield 15, 3) := by decide +kernel
theorem dX7_init_20 : decode cX7_init 20 = .ok (.aload_n 0, 1) := by decide +kernel
theorem dX7_init_21 : decode cX7_init 21 = .ok (.iconst 0, 1) := by decide +kernel
theorem dX7_init_22 : decode cX7_init 22 = .ok (.putfield 18, 3) := by decide +kernel
theorem dX7_init_25 : decode cX7_init 25 = .ok (.return_, 1) := by decide +kernel
theorem dX7_add_0 : decode cX7_add 0 = .ok (.aload_n 0, 1) := by decide +kernel
theorem dX7_add_1 : decode cX7_add 1 = .ok (.getfield 18, 3) := by decide +kernel
theorem dX7_add_4 : decode cX7_add 4 = .ok (.bipush 20, 2) := by decide +kernel
theorem dX7_add_6 : decode cX7_add 6 = .ok (.if_icmp .lt 5, 3) := by decide +kernel
theorem dX7_add_9 : decode cX7_add 9 = .ok (.iconst (-1), 1) := by decide +kernel
theorem dX7_add_10 : decode cX7_add 10 = .ok (.ireturn, 1) := by decide +kernel
theorem dX7_add_11 : decode cX7_add 11 = .ok (.aload_n 0, 1) := by decide +kernel
theorem dX7_add_12 : decode cX7_add 12 = .ok (.getfield 9, 3) := by decide +kernel
theorem dX7_add_15 : decode cX7_add 15 = .ok (.aload_n 0, 1) := by decide +kernel
theorem dX7_add_16 : decode cX7_add 16 = .ok (.getfield 18, 3) := by decide +kernel
theorem dX7_add_19 : decode cX7_add 19 = .ok (.iload_n 1, 1) := by decide +kernel
theorem dX7_add_20 : decode cX7_add 20 = .ok (.iastore, 1) := by decide +kernel
theorem dX7_add_21 : decode cX7_add 21 = .ok (.aload_n 0, 1) := by decide +kernel
theorem dX7_add_22 : decode cX7_add 22 = .ok (.getfield 15, 3) := by decide +kernel
theorem dX7_add_25 : decode cX7_add 25 = .ok (.aload_n 0, 1) := by decide +kernel
theorem dX7_add_26 : decode cX7_add 26 = .ok (.getfield 18, 3) := by decide +kernel
theorem dX7_add_29 : decode cX7_add 29 = .ok (.iload_n 2, 1) := by decide +kernel
theorem dX7_add_30 : decode cX7_add 30 = .ok (.iastore, 1) := by decide +kernel
theorem dX7_add_31 : decode cX7_add 31 = .ok (.aload_n 0, 1) := by decide +kernel
theorem dX7_add_32 : decode cX7_add 32 = .ok (.dup, 1) := by decide +kernel
theorem dX7_add_33 : decode cX7_add 33 = .ok (.getfield 18, 3) := by decide +kernel
theorem dX7_add_36 : decode cX7_add 36 = .ok (.dup_x1, 1) := by decide +kernel
theorem dX7_add_37 : decode cX7_add 37 = .ok (.iconst 1, 1) := by decide +kernel
theorem dX7_add_38 : decode cX7_add 38 = .ok (.iadd, 1) := by decide +kernel
theorem dX7_add_39 : decode cX7_add 39 = .ok (.putfield 18, 3) := by decide +kernel
theorem dX7_add_42 : decode cX7_add 42 = .ok (.ireturn, 1) := by decide +kernel
theorem dX8_init_0 : decode cX8_init 0 = .ok (.aload_n 0, 1) := by decide +kernel
theorem dX8_init_1 : decode cX8_init 1 = .ok (.invokespecial 3, 3) := by decide +kernel
theorem dX8_init_4 : decode cX8_init 4 = .ok (.aload_n 0, 1) := by decide +kernel
theorem dX8_init_5 : decode cX8_init 5 = .ok (.bipush 120, 2) := by decide +kernel
theorem dX8_init_7 : decode cX8_init 7 = .ok (.newarray .int, 2) := by decide +kernel
theorem dX8_init_9 : decode cX8_init 9 = .ok (.putfield 9, 3) := by decide +kernel
theorem dX8_init_12 : decode cX8_init 12 = .ok (.aload_n 0, 1) := by decide +kernel
theorem dX8_init_13 : decode cX8_init 13 = .ok (.iconst 0, 1) := by decide +kernel
theorem dX8_init_14 : decode cX8_init 14 = .ok (.putfield 15, 3) := by decide +kernel
theorem dX8_init_17 : decode cX8_init 17 = .ok (.return_, 1) := by decide +kernel
theorem dX8_bytesIn_0 : decode cX8_bytesIn 0 = .ok (.iconst 0, 1) := by decide +kernel
theorem dX8_bytesIn_1 : decode cX8_bytesIn 1 = .ok (.istore_n 1, 1) := by decide +kernel
theorem dX8_bytesIn_2 : decode cX8_bytesIn 2 = .ok (.bipush 24, 2) := by decide +kernel
theorem dX8_bytesIn_4 : decode cX8_bytesIn 4 = .ok (.istore_n 2, 1) := by decide +kernel
theorem dX8_bytesIn_5 : decode cX8_bytesIn 5 = .ok (.iload_n 2, 1) := by decide +kernel
theorem dX8_bytesIn_6 : decode cX8_bytesIn 6 = .ok (.ifCond .lt 22, 3) := by decide +kernel
theorem dX8_bytesIn_9 : decode cX8_bytesIn 9 = .ok (.iload_n 0, 1) := by decide +kernel
theorem dX8_bytesIn_10 : decode cX8_bytesIn 10 = .ok (.iload_n 2, 1) := by decide +kernel
theorem dX8_bytesIn_11 : decode cX8_bytesIn 11 = .ok (.iushr, 1) := by decide +kernel
theorem dX8_bytesIn_12 : decode cX8_bytesIn 12 = .ok (.sipush 255, 3) := by decide +kernel
theorem dX8_bytesIn_15 : decode cX8_bytesIn 15 = .ok (.iand, 1) := by decide +kernel
theorem dX8_bytesIn_16 : decode cX8_bytesIn 16 = .ok (.ifCond .eq 6, 3) := by decide +kernel
theorem dX8_bytesIn_19 : decode cX8_bytesIn 19 = .ok (.iinc 1 1, 3) := by decide +kernel
theorem dX8_bytesIn_22 : decode cX8_bytesIn 22 = .ok (.iinc 2 (-8), 3) := by decide +kernel
theorem dX8_bytesIn_25 : decode cX8_bytesIn 25 = .ok (.goto (-20), 3) := by decide +kernel
theorem dX8_bytesIn_28 : decode cX8_bytesIn 28 = .ok (.iload_n 1, 1) := by decide +kernel
theorem dX8_bytesIn_29 : decode cX8_bytesIn 29 = .ok (.ireturn, 1) := by decide +kernel
theorem dX8_append_0 : decode cX8_append 0 = .ok (.bipush 24, 2) := by decide +kernel
theorem dX8_append_2 : decode cX8_append 2 = .ok (.istore_n 2, 1) := by decide +kernel
theorem dX8_append_3 : decode cX8_append 3 = .ok (.iload_n 2, 1) := by decide +kernel
theorem dX8_append_4 : decode cX8_append 4 = .ok (.ifCond .lt 50, 3) := by decide +kernel
theorem dX8_append_7 : decode cX8_append 7 = .ok (.iload_n 1, 1) := by decide +kernel
theorem dX8_append_8 : decode cX8_append 8 = .ok (.iload_n 2, 1) := by decide +kernel
theorem dX8_append_9 : decode cX8_append 9 = .ok (.iushr, 1) := by decide +kernel
theorem dX8_append_10 : decode cX8_append 10 = .ok (.sipush 255, 3) := by decide +kernel
theorem dX8_append_13 : decode cX8_append 13 = .ok (.iand, 1) := by decide +kernel
theorem dX8_append_14 : decode cX8_append 14 = .ok (.istore_n 3, 1) := by decide +kernel
theorem dX8_append_15 : decode cX8_append 15 = .ok (.iload_n 3, 1) := by decide +kernel
theorem dX8_append_16 : decode cX8_append 16 = .ok (.ifCond .eq 32, 3) := by decide +kernel
theorem dX8_append_19 : decode cX8_append 19 = .ok (.aload_n 0, 1) := by decide +kernel
theorem dX8_append_20 : decode cX8_append 20 = .ok (.getfield 15, 3) := by decide +kernel
theorem dX8_append_23 : decode cX8_append 23 = .ok (.bipush 120, 2) := by decide +kernel
theorem dX8_append_25 : decode cX8_append 25 = .ok (.if_icmp .ge 23, 3) := by decide +kernel
theorem dX8_append_28 : decode cX8_append 28 = .ok (.aload_n 0, 1) := by decide +kernel
theorem dX8_append_29 : decode cX8_append 29 = .ok (.getfield 9, 3) := by decide +kernel
theorem dX8_append_32 : decode cX8_append 32 = .ok (.aload_n 0, 1) := by decide +kernel
theorem dX8_append_33 : decode cX8_append 33 = .ok (.getfield 15, 3) := by decide +kernel
theorem dX8_append_36 : decode cX8_append 36 = .ok (.iload_n 3, 1) := by decide +kernel
theorem dX8_append_37 : decode cX8_append 37 = .ok (.iastore, 1) := by decide +kernel
theorem dX8_append_38 : decode cX8_append 38 = .ok (.aload_n 0, 1) := by decide +kernel
theorem dX8_append_39 : decode cX8_append 39 = .ok (.dup, 1) := by decide +kernel
theorem dX8_append_40 : decode cX8_append 40 = .ok (.getfield 15, 3) := by decide +kernel
theorem dX8_append_43 : decode cX8_append 43 = .ok (.iconst 1, 1) := by decide +kernel
theorem dX8_append_44 : decode cX8_append 44 = .ok (.iadd, 1) := by decide +kernel
theorem dX8_append_45 : decode cX8_append 45 = .ok (.putfield 15, 3) := by decide +kernel
theorem dX8_append_48 : decode cX8_append 48 = .ok (.iinc 2 (-8), 3) := by decide +kernel
theorem dX8_append_51 : decode cX8_append 51 = .ok (.goto (-48), 3) := by decide +kernel
theorem dX8_append_54 : decode cX8_append 54 = .ok (.return_, 1) := by decide +kernel
set_option maxRecDepth 20000 in
theorem ggX8_firstFault_X8_isDigit : GoodIn wsX8_firstFault wsX8_isDigit := goodIn_r _ [6] (by decide +kernel) (by decide +kernel)
set_option maxRecDepth 20000 in
theorem gX8_firstFault_X8_isDigit : GoodIn wsX8_firstFault (va_wsS RX8 19 yX8_isDigit wsX8_isDigit) := goodIn_app (goodIn_of _ (by decide +kernel)) ggX8_firstFault_X8_isDigit
set_option maxRecDepth 20000 in
theorem ggX8_firstFault_X8_fits : GoodIn wsX8_firstFault wsX8_fits := goodIn_r _ [9] (by decide +kernel) (by decide +kernel)
set_option maxRecDepth 20000 in
theorem gX8_firstFault_X8_fits : GoodIn wsX8_firstFault (va_wsS RX8 23 yX8_fits wsX8_fits) := goodIn_app (goodIn_of _ (by decide +kernel)) ggX8_firstFault_X8_fits
