theorem dX9_isDay_0 : decode cX9_isDay 0 = .ok (.iload_n 0, 1) := by decide +kernel
theorem dX9_isDay_1 : decode cX9_isDay 1 = .ok (.iconst 0, 1) := by decide +kernel
theorem dX9_isDay_2 : decode cX9_isDay 2 = .ok (.sipush 500, 3) := by decide +kernel
theorem dX9_isDay_5 : decode cX9_isDay 5 = .ok (.invokestatic 101, 3) := by decide +kernel
theorem dX9_isDay_8 : decode cX9_isDay 8 = .ok (.ireturn, 1) := by decide +kernel
set_option maxRecDepth 20000 in
theorem ggX9_isOwner_X9_within : GoodIn wsX9_isOwner wsX9_within := goodIn_r _ [4] (by decide +kernel) (by decide +kernel)
set_option maxRecDepth 20000 in
theorem gX9_isOwner_X9_within : GoodIn wsX9_isOwner (va_wsS RX9 101 yX9_within wsX9_within) := goodIn_app (goodIn_of _ (by decide +kernel)) ggX9_isOwner_X9_within
theorem dX9_isOwner_0 : decode cX9_isOwner 0 = .ok (.iload_n 0, 1) := by decide +kernel
theorem dX9_isOwner_1 : decode cX9_isOwner 1 = .ok (.iconst 0, 1) := by decide +kernel
theorem dX9_isOwner_2 : decode cX9_isOwner 2 = .ok (.iconst 5, 1) := by decide +kernel
theorem dX9_isOwner_3 : decode cX9_isOwner 3 = .ok (.invokestatic 101, 3) := by decide +kernel
theorem dX9_isOwner_6 : decode cX9_isOwner 6 = .ok (.ireturn, 1) := by decide +kernel
set_option maxRecDepth 20000 in
theorem ggX9_isStick_X9_within : GoodIn wsX9_isStick wsX9_within := goodIn_r _ [4] (by decide +kernel) (by decide +kernel)
set_option maxRecDepth 20000 in
theorem gX9_isStick_X9_within : GoodIn wsX9_isStick (va_wsS RX9 101 yX9_within wsX9_within) := goodIn_app (goodIn_of _ (by decide +kernel)) ggX9_isStick_X9_within
theorem dX9_isStick_0 : decode cX9_isStick 0 = .ok (.iload_n 0, 1) := by decide +kernel
theorem dX9_isStick_1 : decode cX9_isStick 1 = .ok (.iconst 0, 1) := by decide +kernel
theorem dX9_isStick_2 : decode cX9_isStick 2 = .ok (.iconst 5, 1) := by decide +kernel
theorem dX9_isStick_3 : decode cX9_isStick 3 = .ok (.invokestatic 101, 3) := by decide +kernel
theorem dX9_isStick_6 : decode cX9_isStick 6 = .ok (.ireturn, 1) := by decide +kernel
set_option maxRecDepth 20000 in
theorem ggX9_isSizeByLaw_X9_within : GoodIn wsX9_isSizeByLaw wsX9_within := goodIn_r _ [4] (by decide +kernel) (by decide +kernel)
set_option maxRecDepth 20000 in
theorem gX9_isSizeByLaw_X9_within : GoodIn wsX9_isSizeByLaw (va_wsS RX9 101 yX9_within wsX9_within) := goodIn_app (goodIn_of _ (by decide +kernel)) ggX9_isSizeByLaw_X9_within
theorem dX9_isSizeByLaw_0 : decode cX9_isSizeByLaw 0 = .ok (.iload_n 0, 1) := by decide +kernel
theorem dX9_isSizeByLaw_1 : decode cX9_isSizeByLaw 1 = .ok (.iconst 0, 1) := by decide +kernel
theorem dX9_isSizeByLaw_2 : decode cX9_isSizeByLaw 2 = .ok (.sipush 1000, 3) := by decide +kernel
theorem dX9_isSizeByLaw_5 : decode cX9_isSizeByLaw 5 = .ok (.invokestatic 101, 3) := by decide +kernel
theorem dX9_isSizeByLaw_8 : decode cX9_isSizeByLaw 8 = .ok (.ireturn, 1) := by decide +kernel
set_option maxRecDepth 20000 in
theorem ggX9_isScale_X9_within : GoodIn wsX9_isScale wsX9_within := goodIn_r _ [5] (by decide +kernel) (by decide +kernel)
set_option maxRecDepth 20000 in
theorem gX9_isScale_X9_within : GoodIn wsX9_isScale (va_wsS RX9 101 yX9_within wsX9_within) := goodIn_app (goodIn_of _ (by decide +kernel)) ggX9_isScale_X9_within
theorem dX9_isScale_0 : decode cX9_isScale 0 = .ok (.iload_n 0, 1) := by decide +kernel
theorem dX9_isScale_1 : decode cX9_isScale 1 = .ok (.iconst 0, 1) := by decide +kernel
theorem dX9_isScale_2 : decode cX9_isScale 2 = .ok (.ldc_w 256, 3) := by decide +kernel
theorem dX9_isScale_5 : decode cX9_isScale 5 = .ok (.invokestatic 101, 3) := by decide +kernel
theorem dX9_isScale_8 : decode cX9_isScale 8 = .ok (.ireturn, 1) := by decide +kernel
set_option maxRecDepth 20000 in
theorem ggX9_isKnown_X9_within : GoodIn wsX9_isKnown wsX9_within := goodIn_r _ [5] (by decide +kernel) (by decide +kernel)
set_option maxRecDepth 20000 in
theorem gX9_isKnown_X9_within : GoodIn wsX9_isKnown (va_wsS RX9 101 yX9_within wsX9_within) := goodIn_app (goodIn_of _ (by decide +kernel)) ggX9_isKnown_X9_within
theorem dX9_isKnown_0 : decode cX9_isKnown 0 = .ok (.iload_n 1, 1) := by decide +kernel
theorem dX9_isKnown_1 : decode cX9_isKnown 1 = .ok (.iconst 0, 1) := by decide +kernel
theorem dX9_isKnown_2 : decode cX9_isKnown 2 = .ok (.aload_n 0, 1) := by decide +kernel
theorem dX9_isKnown_3 : decode cX9_isKnown 3 = .ok (.getfield 82, 3) := by decide +kernel
theorem dX9_isKnown_6 : decode cX9_isKnown 6 = .ok (.invokestatic 101, 3) := by decide +kernel
theorem dX9_isKnown_9 : decode cX9_isKnown 9 = .ok (.ireturn, 1) := by decide +kernel
set_option maxRecDepth 20000 in
theorem ggX9_isLog_X9_within : GoodIn wsX9_isLog wsX9_within := goodIn_r _ [5] (by decide +kernel) (by decide +kernel)
set_option maxRecDepth 20000 in
theorem gX9_isLog_X9_within : GoodIn wsX9_isLog (va_wsS RX9 101 yX9_within wsX9_within) := goodIn_app (goodIn_of _ (by decide +kernel)) ggX9_isLog_X9_within
theorem dX9_isLog_0 : decode cX9_isLog 0 = .ok (.iload_n 1, 1) := by decide +kernel
theorem dX9_isLog_1 : decode cX9_isLog 1 = .ok (.iconst 0, 1) := by decide +kernel
theorem dX9_isLog_2 : decode cX9_isLog 2 = .ok (.aload_n 0, 1) := by decide +kernel
theorem dX9_isLog_3 : decode cX9_isLog 3 = .ok (.getfield 78, 3) := by decide +kernel
theorem dX9_isLog_6 : decode cX9_isLog 6 = .ok (.iconst 1, 1) := by decide +kernel
theorem dX9_isLog_7 : decode cX9_isLog 7 = .ok (.isub, 1) := by decide +kernel
theorem dX9_isLog_8 : decode cX9_isLog 8 = .ok (.invokestatic 101, 3) := by decide +kernel
theorem dX9_isLog_11 : decode cX9_isLog 11 = .ok (.ireturn, 1) := by decide +kernel
set_option maxRecDepth 20000 in
theorem ggX9_scaleOf_X6_inForce : GoodIn wsX9_scaleOf wsX6_inForce := goodIn_r _ [16, 17, 18, 19, 20, 90, 91, 92, 93] (by decide +kernel) (by decide +kernel)
set_option maxRecDepth 20000 in
theorem gX9_scaleOf_X6_inForce : GoodIn wsX9_scaleOf (wsV RX9 144 RX6 yX6_inForce wsX6_inForce) := goodIn_app (goodIn_of _ (by decide +kernel)) ggX9_scaleOf_X6_inForce
set_option maxRecDepth 20000 in
theorem ggX9_scaleOf_X9_trueD : GoodIn wsX9_scaleOf wsX9_trueD := goodIn_r _ [25, 26, 27, 28, 29, 7, 30, 12, 13, 14, 15, 16, 17, 18, 19, 20, 75, 76, 77, 78, 79, 80, 81, 82, 83, 84, 85, 86, 87, 88, 66, 67, 68, 69, 70, 71, 72, 73, 74, 90, 91, 92, 93] (by decide +kernel) (by decide +kernel)
set_option maxRecDepth 20000 in
theorem gX9_scaleOf_X9_trueD : GoodIn wsX9_scaleOf (wsV RX9 260 RX9 yX9_trueD wsX9_trueD) := goodIn_app (goodIn_of _ (by decide +kernel)) ggX9_scaleOf_X9_trueD
set_option maxRecDepth 20000 in
theorem ggX9_scaleOf_X5_reckon : GoodIn wsX9_scaleOf wsX5_reckon := goodIn_r _ [35, 36, 37, 38, 39, 40, 41, 42, 34, 43, 44, 45, 46, 47, 48, 49, 50, 51, 52, 53, 54, 55, 56, 57, 58, 59, 60, 61, 62, 63, 64, 65, 94, 95, 96, 97, 98] (by decide +kernel) (by decide +kernel)
set_option maxRecDepth 20000 in
theorem gX9_scaleOf_X5_reckon : GoodIn wsX9_scaleOf (wsV RX9 137 RX5 yX5_reckon wsX5_reckon) := goodIn_app (goodIn_of _ (by decide +kernel)) ggX9_scaleOf_X5_reckon
theorem dX9_scaleOf_0 : decode cX9_scaleOf 0 = .ok (.aload_n 1, 1) := by decide +kernel
theorem dX9_scaleOf_1 : decode cX9_scaleOf 1 = .ok (.getfield 257, 3) := by decide +kernel
theorem dX9_scaleOf_4 : decode cX9_scaleOf 4 = .ok (.iload_n 2, 1) := by decide +kernel
theorem dX9_scaleOf_5 : decode cX9_scaleOf 5 = .ok (.if_icmp .le 5, 3) := by decide +kernel
theorem dX9_scaleOf_8 : decode cX9_scaleOf 8 = .ok (.iconst (-1), 1) := by decide +kernel
theorem dX9_scaleOf_9 : decode cX9_scaleOf 9 = .ok (.ireturn, 1) := by decide +kernel
theorem dX9_scaleOf_10 : decode cX9_scaleOf 10 = .ok (.aload_n 0, 1) := by decide +kernel
theorem dX9_scaleOf_11 : decode cX9_scaleOf 11 = .ok (.getfield 28, 3) := by decide +kernel
theorem dX9_scaleOf_14 : decode cX9_scaleOf 14 = .ok (.iconst 0, 1) := by decide +kernel
theorem dX9_scaleOf_15 : decode cX9_scaleOf 15 = .ok (.aload_n 1, 1) := by decide +kernel
theorem dX9_scaleOf_16 : decode cX9_scaleOf 16 = .ok (.getfield 257, 3) := by decide +kernel
theorem dX9_scaleOf_19 : decode cX9_scaleOf 19 = .ok (.iload_n 2, 1) := by decide +kernel
theorem dX9_scaleOf_20 : decode cX9_scaleOf 20 = .ok (.invokevirtual 144, 3) := by decide +kernel
theorem dX9_scaleOf_23 : decode cX9_scaleOf 23 = .ok (.istore_n 3, 1) := by decide +kernel
theorem dX9_scaleOf_24 : decode cX9_scaleOf 24 = .ok (.iload_n 3, 1) := by decide +kernel
theorem dX9_scaleOf_25 : decode cX9_scaleOf 25 = .ok (.iconst (-1), 1) := by decide +kernel
theorem dX9_scaleOf_26 : decode cX9_scaleOf 26 = .ok (.if_icmp .ne 5, 3) := by decide +kernel
theorem dX9_scaleOf_29 : decode cX9_scaleOf 29 = .ok (.iconst (-1), 1) := by decide +kernel
theorem dX9_scaleOf_30 : decode cX9_scaleOf 30 = .ok (.ireturn, 1) := by decide +kernel
theorem dX9_scaleOf_31 : decode cX9_scaleOf 31 = .ok (.aload_n 0, 1) := by decide +kernel
theorem dX9_scaleOf_32 : decode cX9_scaleOf 32 = .ok (.getfield 19, 3) := by decide +kernel
theorem dX9_scaleOf_35 : decode cX9_scaleOf 35 = .ok (.aload_n 0, 1) := by decide +kernel
theorem dX9_scaleOf_36 : decode cX9_scaleOf 36 = .ok (.getfield 34, 3) := by decide +kernel
theorem dX9_scaleOf_39 : decode cX9_scaleOf 39 = .ok (.iload_n 3, 1) := by decide +kernel
theorem dX9_scaleOf_40 : decode cX9_scaleOf 40 = .ok (.aaload, 1) := by decide +kernel
theorem dX9_scaleOf_41 : decode cX9_scaleOf 41 = .ok (.getfield 135, 3) := by decide +kernel
theorem dX9_scaleOf_44 : decode cX9_scaleOf 44 = .ok (.aload_n 0, 1) := by decide +kernel
theorem dX9_scaleOf_45 : decode cX9_scaleOf 45 = .ok (.aload_n 1, 1) := by decide +kernel
theorem dX9_scaleOf_46 : decode cX9_scaleOf 46 = .ok (.iload_n 2, 1) := by decide +kernel
theorem dX9_scaleOf_47 : decode cX9_scaleOf 47 = .ok (.invokevirtual 260, 3) := by decide +kernel
theorem dX9_scaleOf_50 : decode cX9_scaleOf 50 = .ok (.aload_n 1, 1) := by decide +kernel
theorem dX9_scaleOf_51 : decode cX9_scaleOf 51 = .ok (.getfield 263, 3) := by decide +kernel
theorem dX9_scaleOf_54 : decode cX9_scaleOf 54 = .ok (.invokevirtual 137, 3) := by decide +kernel
theorem dX9_scaleOf_57 : decode cX9_scaleOf 57 = .ok (.lstore 4, 2) := by decide +kernel
theorem dX9_scaleOf_59 : decode cX9_scaleOf 59 = .ok (.lconst 0, 1) := by decide +kernel
theorem dX9_scaleOf_60 : decode cX9_scaleOf 60 = .ok (.ldc2_w 266, 3) := by decide +kernel
theorem dX9_scaleOf_63 : decode cX9_scaleOf 63 = .ok (.lload 4, 2) := by decide +kernel
theorem dX9_scaleOf_65 : decode cX9_scaleOf 65 = .ok (.invokestatic 268, 3) := by decide +kernel
theorem dX9_scaleOf_68 : decode cX9_scaleOf 68 = .ok (.invokestatic 273, 3) := by decide +kernel
theorem dX9_scaleOf_71 : decode cX9_scaleOf 71 = .ok (.l2i, 1) := by decide +kernel
theorem dX9_scaleOf_72 : decode cX9_scaleOf 72 = .ok (.istore 6, 2) := by decide +kernel
theorem dX9_scaleOf_74 : decode cX9_scaleOf 74 = .ok (.iload 6, 2) := by decide +kernel
theorem dX9_scaleOf_76 : decode cX9_scaleOf 76 = .ok (.bipush 100, 2) := by decide +kernel
theorem dX9_scaleOf_78 : decode cX9_scaleOf 78 = .ok (.aload_n 1, 1) := by decide +kernel
theorem dX9_scaleOf_79 : decode cX9_scaleOf 79 = .ok (.getfield 162, 3) := by decide +kernel
theorem dX9_scaleOf_82 : decode cX9_scaleOf 82 = .ok (.isub, 1) := by decide +kernel
theorem dX9_scaleOf_83 : decode cX9_scaleOf 83 = .ok (.imul, 1) := by decide +kernel
theorem dX9_scaleOf_84 : decode cX9_scaleOf 84 = .ok (.bipush 100, 2) := by decide +kernel
theorem dX9_scaleOf_86 : decode cX9_scaleOf 86 = .ok (.idiv, 1) := by decide +kernel
theorem dX9_scaleOf_87 : decode cX9_scaleOf 87 = .ok (.ireturn, 1) := by decide +kernel
set_option maxRecDepth 20000 in
theorem ggX9_trueD_X6_inForce : GoodIn wsX9_trueD wsX6_inForce := goodIn_r _ [11, 12, 13, 14, 15, 39, 40, 41, 42] (by decide +kernel) (by decide +kernel)
set_option maxRecDepth 20000 in
theorem gX9_trueD_X6_inForce : GoodIn wsX9_trueD (wsV RX9 144 RX6 yX6_inForce wsX6_inForce) := goodIn_app (goodIn_of _ (by decide +kernel)) ggX9_trueD_X6_inForce
theorem dX9_trueD_0 : decode cX9_trueD 0 = .ok (.aload_n 0, 1) := by decide +kernel
theorem dX9_trueD_1 : decode cX9_trueD 1 = .ok (.getfield 38, 3) := by decide +kernel
theorem dX9_trueD_4 : decode cX9_trueD 4 = .ok (.aload_n 1, 1) := by decide +kernel
theorem dX9_trueD_5 : decode cX9_trueD 5 = .ok (.getfield 196, 3) := by decide +kernel
theorem dX9_trueD_8 : decode cX9_trueD 8 = .ok (.aload_n 1, 1) := by decide +kernel
theorem dX9_trueD_9 : decode cX9_trueD 9 = .ok (.getfield 257, 3) := by decide +kernel
theorem dX9_trueD_12 : decode cX9_trueD 12 = .ok (.iload_n 2, 1) := by decide +kernel
theorem dX9_trueD_13 : decode cX9_trueD 13 = .ok (.invokevirtual 144, 3) := by decide +kernel
theorem dX9_trueD_16 : decode cX9_trueD 16 = .ok (.istore_n 3, 1) := by decide +kernel
theorem dX9_trueD_17 : decode cX9_trueD 17 = .ok (.iload_n 3, 1) := by decide +kernel
theorem dX9_trueD_18 : decode cX9_trueD 18 = .ok (.iconst (-1), 1) := by decide +kernel
theorem dX9_trueD_19 : decode cX9_trueD 19 = .ok (.if_icmp .ne 7, 3) := by decide +kernel
theorem dX9_trueD_22 : decode cX9_trueD 22 = .ok (.iconst 0, 1) := by decide +kernel
theorem dX9_trueD_23 : decode cX9_trueD 23 = .ok (.goto 9, 3) := by decide +kernel
theorem dX9_trueD_26 : decode cX9_trueD 26 = .ok (.aload_n 0, 1) := by decide +kernel
theorem dX9_trueD_27 : decode cX9_trueD 27 = .ok (.getfield 41, 3) := by decide +kernel
theorem dX9_trueD_30 : decode cX9_trueD 30 = .ok (.iload_n 3, 1) := by decide +kernel
theorem dX9_trueD_31 : decode cX9_trueD 31 = .ok (.iaload, 1) := by decide +kernel
theorem dX9_trueD_32 : decode cX9_trueD 32 = .ok (.istore 4, 2) := by decide +kernel
theorem dX9_trueD_34 : decode cX9_trueD 34 = .ok (.iconst 0, 1) := by decide +kernel
theorem dX9_trueD_35 : decode cX9_trueD 35 = .ok (.aload_n 1, 1) := by decide +kernel
theorem dX9_trueD_36 : decode cX9_trueD 36 = .ok (.getfield 199, 3) := by decide +kernel
theorem dX9_trueD_39 : decode cX9_trueD 39 = .ok (.sipush 1000, 3) := by decide +kernel
theorem dX9_trueD_42 : decode cX9_trueD 42 = .ok (.imul, 1) := by decide +kernel
theorem dX9_trueD_43 : decode cX9_trueD 43 = .ok (.sipush 1000, 3) := by decide +kernel
theorem dX9_trueD_46 : decode cX9_trueD 46 = .ok (.iload 4, 2) := by decide +kernel
theorem dX9_trueD_48 : decode cX9_trueD 48 = .ok (.iadd, 1) := by decide +kernel
theorem dX9_trueD_49 : decode cX9_trueD 49 = .ok (.idiv, 1) := by decide +kernel
theorem dX9_trueD_50 : decode cX9_trueD 50 = .ok (.aload_n 1, 1) := by decide +kernel
theorem dX9_trueD_51 : decode cX9_trueD 51 = .ok (.getfield 159, 3) := by decide +kernel
theorem dX9_trueD_54 : decode cX9_trueD 54 = .ok (.isub, 1) := by decide +kernel
theorem dX9_trueD_55 : decode cX9_trueD 55 = .ok (.invokestatic 276, 3) := by decide +kernel
theorem dX9_trueD_58 : decode cX9_trueD 58 = .ok (.ireturn, 1) := by decide +kernel
set_option maxRecDepth 20000 in
theorem ggX9_scaleOrNothing_X9_scaleOf : GoodIn wsX9_scaleOrNothing wsX9_scaleOf := goodIn_r _ [5, 6, 7, 8, 9, 10, 11, 12, 13, 14, 15, 16, 17, 18, 19, 20, 21, 22, 23, 24, 25, 26, 27, 28, 4, 29, 30, 31, 32, 33, 34, 35, 36, 37, 38, 39, 40, 41, 42, 43, 44, 45, 46, 47, 48, 49, 50, 51, 52, 53, 54, 55, 56, 57, 58, 59, 60, 61, 62, 63, 64, 65, 66, 67, 68, 69, 70, 71, 72, 73, 74, 75, 76, 77, 78, 79, 80, 81, 82, 83, 84, 85, 86, 87, 88, 89, 90, 91, 92, 93, 94, 95, 96, 97, 98, 99, 100, 101, 102] (by decide +kernel) (by decide +kernel)
set_option maxRecDepth 20000 in
theorem gX9_scaleOrNothing_X9_scaleOf : GoodIn wsX9_scaleOrNothing (wsV RX9 165 RX9 yX9_scaleOf wsX9_scaleOf) := goodIn_app (goodIn_of _ (by decide +kernel)) ggX9_scaleOrNothing_X9_scaleOf
theorem dX9_scaleOrNothing_0 : decode cX9_scaleOrNothing 0 = .ok (.aload_n 0, 1) := by decide +kernel
theorem dX9_scaleOrNothing_1 : decode cX9_scaleOrNothing 1 = .ok (.aload_n 1, 1) := by decide +kernel
theorem dX9_scaleOrNothing_2 : decode cX9_scaleOrNothing 2 = .ok (.iload_n 2, 1) := by decide +kernel
theorem dX9_scaleOrNothing_3 : decode cX9_scaleOrNothing 3 = .ok (.invokevirtual 165, 3) := by decide +kernel
theorem dX9_scaleOrNothing_6 : decode cX9_scaleOrNothing 6 = .ok (.istore_n 3, 1) := by decide +kernel
theorem dX9_scaleOrNothing_7 : decode cX9_scaleOrNothing 7 = .ok (.iload_n 3, 1) := by decide +kernel
theorem dX9_scaleOrNothing_8 : decode cX9_scaleOrNothing 8 = .ok (.iconst (-1), 1) := by decide +kernel
theorem dX9_scaleOrNothing_9 : decode cX9_scaleOrNothing 9 = .ok (.if_icmp .ne 7, 3) := by decide +kernel
theorem dX9_scaleOrNothing_12 : decode cX9_scaleOrNothing 12 = .ok (.iconst 0, 1) := by decide +kernel
theorem dX9_scaleOrNothing_13 : decode cX9_scaleOrNothing 13 = .ok (.goto 4, 3) := by decide +kernel
theorem dX9_scaleOrNothing_16 : decode cX9_scaleOrNothing 16 = .ok (.iload_n 3, 1) := by decide +kernel
theorem dX9_scaleOrNothing_17 : decode cX9_scaleOrNothing 17 = .ok (.ireturn, 1) := by decide +kernel
set_option maxRecDepth 20000 in
theorem ggX9_reckonPays_X9_scaleOrNothing : GoodIn wsX9_reckonPays wsX9_scaleOrNothing := goodIn_r _ [10, 11, 12, 13, 9, 14, 15, 16, 17, 18, 19, 20, 21, 22, 23, 24, 25, 26, 27, 28, 29, 30, 31, 32, 33, 34, 35, 36, 37, 38, 39, 40, 41, 42, 43, 44, 45, 46, 47, 48, 49, 50, 51, 52, 53, 54, 55, 56, 57, 58, 59, 60, 61, 62, 63, 64, 65, 66, 67, 68, 69, 70, 71, 72, 73, 74, 75, 76, 77, 78, 93, 94, 95, 96, 97, 98, 99, 100, 101, 79, 80, 81, 82, 83, 84, 85, 86, 87, 88, 89, 90, 91, 92, 102, 103, 104, 105, 106, 107, 108, 109, 110, 111] (by decide +kernel) (by decide +kernel)
set_option maxRecDepth 20000 in
theorem gX9_reckonPays_X9_scaleOrNothing : GoodIn wsX9_reckonPays (wsV RX9 172 RX9 yX9_scaleOrNothing wsX9_scaleOrNothing) := goodIn_app (goodIn_of _ (by decide +kernel)) ggX9_reckonPays_X9_scaleOrNothing
theorem dX9_reckonPays_0 : decode cX9_reckonPays 0 = .ok (.iconst 0, 1) := by decide +kernel
theorem dX9_reckonPays_1 : decode cX9_reckonPays 1 = .ok (.istore_n 1, 1) := by decide +kernel
theorem dX9_reckonPays_2 : decode cX9_reckonPays 2 = .ok (.iconst 0, 1) := by decide +kernel
theorem dX9_reckonPays_3 : decode cX9_reckonPays 3 = .ok (.istore_n 2, 1) := by decide +kernel
theorem dX9_reckonPays_4 : decode cX9_reckonPays 4 = .ok (.iload_n 2, 1) := by decide +kernel
theorem dX9_reckonPays_5 : decode cX9_reckonPays 5 = .ok (.aload_n 0, 1) := by decide +kernel
theorem dX9_reckonPays_6 : decode cX9_reckonPays 6 = .ok (.getfield 78, 3) := by decide +kernel
theorem dX9_reckonPays_9 : decode cX9_reckonPays 9 = .ok (.if_icmp .ge 65, 3) := by decide +kernel
theorem dX9_reckonPays_12 : decode cX9_reckonPays 12 = .ok (.aload_n 0, 1) := by decide +kernel
theorem dX9_reckonPays_13 : decode cX9_reckonPays 13 = .ok (.getfield 54, 3) := by decide +kernel
theorem dX9_reckonPays_16 : decode cX9_reckonPays 16 = .ok (.iload_n 2, 1) := by decide +kernel
theorem dX9_reckonPays_17 : decode cX9_reckonPays 17 = .ok (.aload_n 0, 1) := by decide +kernel
theorem dX9_reckonPays_18 : decode cX9_reckonPays 18 = .ok (.aload_n 0, 1) := by decide +kernel
theorem dX9_reckonPays_19 : decode cX9_reckonPays 19 = .ok (.getfield 47, 3) := by decide +kernel
theorem dX9_reckonPays_22 : decode cX9_reckonPays 22 = .ok (.iload_n 2, 1) := by decide +kernel
theorem dX9_reckonPays_23 : decode cX9_reckonPays 23 = .ok (.aaload, 1) := by decide +kernel
theorem dX9_reckonPays_24 : decode cX9_reckonPays 24 = .ok (.aload_n 0, 1) := by decide +kernel
theorem dX9_reckonPays_25 : decode cX9_reckonPays 25 = .ok (.getfield 82, 3) := by decide +kernel
theorem dX9_reckonPays_28 : decode cX9_reckonPays 28 = .ok (.invokevirtual 172, 3) := by decide +kernel
theorem dX9_reckonPays_31 : decode cX9_reckonPays 31 = .ok (.aload_n 0, 1) := by decide +kernel
theorem dX9_reckonPays_32 : decode cX9_reckonPays 32 = .ok (.getfield 51, 3) := by decide +kernel
theorem dX9_reckonPays_35 : decode cX9_reckonPays 35 = .ok (.aload_n 0, 1) := by decide +kernel
theorem dX9_reckonPays_36 : decode cX9_reckonPays 36 = .ok (.getfield 47, 3) := by decide +kernel
theorem dX9_reckonPays_39 : decode cX9_reckonPays 39 = .ok (.iload_n 2, 1) := by decide +kernel
theorem dX9_reckonPays_40 : decode cX9_reckonPays 40 = .ok (.aaload, 1) := by decide +kernel
theorem dX9_reckonPays_41 : decode cX9_reckonPays 41 = .ok (.getfield 169, 3) := by decide +kernel
theorem dX9_reckonPays_44 : decode cX9_reckonPays 44 = .ok (.iaload, 1) := by decide +kernel
theorem dX9_reckonPays_45 : decode cX9_reckonPays 45 = .ok (.imul, 1) := by decide +kernel
theorem dX9_reckonPays_46 : decode cX9_reckonPays 46 = .ok (.iastore, 1) := by decide +kernel
theorem dX9_reckonPays_47 : decode cX9_reckonPays 47 = .ok (.aload_n 0, 1) := by decide +kernel
theorem dX9_reckonPays_48 : decode cX9_reckonPays 48 = .ok (.getfield 54, 3) := by decide +kernel
theorem dX9_reckonPays_51 : decode cX9_reckonPays 51 = .ok (.iload_n 2, 1) := by decide +kernel
theorem dX9_reckonPays_52 : decode cX9_reckonPays 52 = .ok (.iaload, 1) := by decide +kernel
theorem dX9_reckonPays_53 : decode cX9_reckonPays 53 = .ok (.aload_n 0, 1) := by decide +kernel
theorem dX9_reckonPays_54 : decode cX9_reckonPays 54 = .ok (.getfield 47, 3) := by decide +kernel
theorem dX9_reckonPays_57 : decode cX9_reckonPays 57 = .ok (.iload_n 2, 1) := by decide +kernel
theorem dX9_reckonPays_58 : decode cX9_reckonPays 58 = .ok (.aaload, 1) := by decide +kernel
theorem dX9_reckonPays_59 : decode cX9_reckonPays 59 = .ok (.getfield 279, 3) := by decide +kernel
theorem dX9_reckonPays_62 : decode cX9_reckonPays 62 = .ok (.if_icmp .eq 6, 3) := by decide +kernel
theorem dX9_reckonPays_65 : decode cX9_reckonPays 65 = .ok (.iinc 1 1, 3) := by decide +kernel
theorem dX9_reckonPays_68 : decode cX9_reckonPays 68 = .ok (.iinc 2 1, 3) := by decide +kernel
theorem dX9_reckonPays_71 : decode cX9_reckonPays 71 = .ok (.goto (-67), 3) := by decide +kernel
theorem dX9_reckonPays_74 : decode cX9_reckonPays 74 = .ok (.iload_n 1, 1) := by decide +kernel
theorem dX9_reckonPays_75 : decode cX9_reckonPays 75 = .ok (.ireturn, 1) := by decide +kernel
set_option maxRecDepth 20000 in
theorem ggX9_bookPays_X2_write : GoodIn wsX9_bookPays wsX2_write := goodIn_r _ [10, 11, 12, 13, 14, 15, 16, 17, 18, 9, 19, 20, 21, 22, 23, 24, 25, 26, 27, 28, 29, 30, 31, 32, 33, 34, 35, 36, 37, 38, 39, 63, 64, 65, 66, 67] (by decide +kernel) (by decide +kernel)
set_option maxRecDepth 20000 in
theorem gX9_bookPays_X2_write : GoodIn wsX9_bookPays (wsV RX9 282 RX2 yX2_write wsX2_write) := goodIn_app (goodIn_of _ (by decide +kernel)) ggX9_bookPays_X2_write
theorem dX9_bookPays_0 : decode cX9_bookPays 0 = .ok (.iconst 0, 1) := by decide +kernel
theorem dX9_bookPays_1 : decode cX9_bookPays 1 = .ok (.istore_n 1, 1) := by decide +kernel
theorem dX9_bookPays_2 : decode cX9_bookPays 2 = .ok (.iload_n 1, 1) := by decide +kernel
theorem dX9_bookPays_3 : decode cX9_bookPays 3 = .ok (.aload_n 0, 1) := by decide +kernel
theorem dX9_bookPays_4 : decode cX9_bookPays 4 = .ok (.getfield 78, 3) := by decide +kernel
theorem dX9_bookPays_7 : decode cX9_bookPays 7 = .ok (.if_icmp .ge 58, 3) := by decide +kernel
theorem dX9_bookPays_10 : decode cX9_bookPays 10 = .ok (.aload_n 0, 1) := by decide +kernel
theorem dX9_bookPays_11 : decode cX9_bookPays 11 = .ok (.getfield 54, 3) := by decide +kernel
theorem dX9_bookPays_14 : decode cX9_bookPays 14 = .ok (.iload_n 1, 1) := by decide +kernel
theorem dX9_bookPays_15 : decode cX9_bookPays 15 = .ok (.iaload, 1) := by decide +kernel
theorem dX9_bookPays_16 : decode cX9_bookPays 16 = .ok (.aload_n 0, 1) := by decide +kernel
theorem dX9_bookPays_17 : decode cX9_bookPays 17 = .ok (.getfield 47, 3) := by decide +kernel
theorem dX9_bookPays_20 : decode cX9_bookPays 20 = .ok (.iload_n 1, 1) := by decide +kernel
theorem dX9_bookPays_21 : decode cX9_bookPays 21 = .ok (.aaload, 1) := by decide +kernel
theorem dX9_bookPays_22 : decode cX9_bookPays 22 = .ok (.getfield 279, 3) := by decide +kernel
theorem dX9_bookPays_25 : decode cX9_bookPays 25 = .ok (.isub, 1) := by decide +kernel
theorem dX9_bookPays_26 : decode cX9_bookPays 26 = .ok (.istore_n 2, 1) := by decide +kernel
theorem dX9_bookPays_27 : decode cX9_bookPays 27 = .ok (.iload_n 2, 1) := by decide +kernel
theorem dX9_bookPays_28 : decode cX9_bookPays 28 = .ok (.ifCond .eq 31, 3) := by decide +kernel
theorem dX9_bookPays_31 : decode cX9_bookPays 31 = .ok (.aload_n 0, 1) := by decide +kernel
theorem dX9_bookPays_32 : decode cX9_bookPays 32 = .ok (.getfield 60, 3) := by decide +kernel
theorem dX9_bookPays_35 : decode cX9_bookPays 35 = .ok (.aload_n 0, 1) := by decide +kernel
theorem dX9_bookPays_36 : decode cX9_bookPays 36 = .ok (.getfield 82, 3) := by decide +kernel
theorem dX9_bookPays_39 : decode cX9_bookPays 39 = .ok (.iload_n 1, 1) := by decide +kernel
theorem dX9_bookPays_40 : decode cX9_bookPays 40 = .ok (.iload_n 2, 1) := by decide +kernel
theorem dX9_bookPays_41 : decode cX9_bookPays 41 = .ok (.invokevirtual 282, 3) := by decide +kernel
theorem dX9_bookPays_44 : decode cX9_bookPays 44 = .ok (.aload_n 0, 1) := by decide +kernel
theorem dX9_bookPays_45 : decode cX9_bookPays 45 = .ok (.getfield 47, 3) := by decide +kernel
theorem dX9_bookPays_48 : decode cX9_bookPays 48 = .ok (.iload_n 1, 1) := by decide +kernel
theorem dX9_bookPays_49 : decode cX9_bookPays 49 = .ok (.aaload, 1) := by decide +kernel
theorem dX9_bookPays_50 : decode cX9_bookPays 50 = .ok (.aload_n 0, 1) := by decide +kernel
theorem dX9_bookPays_51 : decode cX9_bookPays 51 = .ok (.getfield 54, 3) := by decide +kernel
theorem dX9_bookPays_54 : decode cX9_bookPays 54 = .ok (.iload_n 1, 1) := by decide +kernel
theorem dX9_bookPays_55 : decode cX9_bookPays 55 = .ok (.iaload, 1) := by decide +kernel
theorem dX9_bookPays_56 : decode cX9_bookPays 56 = .ok (.putfield 279, 3) := by decide +kernel
theorem dX9_bookPays_59 : decode cX9_bookPays 59 = .ok (.iinc 1 1, 3) := by decide +kernel
theorem dX9_bookPays_62 : decode cX9_bookPays 62 = .ok (.goto (-60), 3) := by decide +kernel
theorem dX9_bookPays_65 : decode cX9_bookPays 65 = .ok (.return_, 1) := by decide +kernel
theorem dX9_commonDivisor_0 : decode cX9_commonDivisor 0 = .ok (.lload_n 0, 1) := by decide +kernel
theorem dX9_commonDivisor_1 : decode cX9_commonDivisor 1 = .ok (.lstore 4, 2) := by decide +kernel
theorem dX9_commonDivisor_3 : decode cX9_commonDivisor 3 = .ok (.lload_n 2, 1) := by decide +kernel
theorem dX9_commonDivisor_4 : decode cX9_commonDivisor 4 = .ok (.lstore 6, 2) := by decide +kernel
theorem dX9_commonDivisor_6 : decode cX9_commonDivisor 6 = .ok (.iconst 0, 1) := by decide +kernel
theorem dX9_commonDivisor_7 : decode cX9_commonDivisor 7 = .ok (.istore 8, 2) := by decide +kernel
theorem dX9_commonDivisor_9 : decode cX9_commonDivisor 9 = .ok (.iload 8, 2) := by decide +kernel
theorem dX9_commonDivisor_11 : decode cX9_commonDivisor 11 = .ok (.bipush 100, 2) := by decide +kernel
theorem dX9_commonDivisor_13 : decode cX9_commonDivisor 13 = .ok (.if_icmp .ge 31, 3) := by decide +kernel
theorem dX9_commonDivisor_16 : decode cX9_commonDivisor 16 = .ok (.lload 6, 2) := by decide +kernel
theorem dX9_commonDivisor_18 : decode cX9_commonDivisor 18 = .ok (.lconst 0, 1) := by decide +kernel
theorem dX9_commonDivisor_19 : decode cX9_commonDivisor 19 = .ok (.lcmp, 1) := by decide +kernel
theorem dX9_commonDivisor_20 : decode cX9_commonDivisor 20 = .ok (.ifCond .eq 24, 3) := by decide +kernel
theorem dX9_commonDivisor_23 : decode cX9_commonDivisor 23 = .ok (.lload 4, 2) := by decide +kernel
theorem dX9_commonDivisor_25 : decode cX9_commonDivisor 25 = .ok (.lload 6, 2) := by decide +kernel
theorem dX9_commonDivisor_27 : decode cX9_commonDivisor 27 = .ok (.lrem, 1) := by decide +kernel
theorem dX9_commonDivisor_28 : decode cX9_commonDivisor 28 = .ok (.lstore 9, 2) := by decide +kernel
theorem dX9_commonDivisor_30 : decode cX9_commonDivisor 30 = .ok (.lload 6, 2) := by decide +kernel
theorem dX9_commonDivisor_32 : decode cX9_commonDivisor 32 = .ok (.lstore 4, 2) := by decide +kernel
theorem dX9_commonDivisor_34 : decode cX9_commonDivisor 34 = .ok (.lload 9, 2) := by decide +kernel
theorem dX9_commonDivisor_36 : decode cX9_commonDivisor 36 = .ok (.lstore 6, 2) := by decide +kernel
theorem dX9_commonDivisor_38 : decode cX9_commonDivisor 38 = .ok (.iinc 8 1, 3) := by decide +kernel
theorem dX9_commonDivisor_41 : decode cX9_commonDivisor 41 = .ok (.goto (-32), 3) := by decide +kernel
theorem dX9_commonDivisor_44 : decode cX9_commonDivisor 44 = .ok (.lload 4, 2) := by decide +kernel
theorem dX9_commonDivisor_46 : decode cX9_commonDivisor 46 = .ok (.lreturn, 1) := by decide +kernel
theorem dX10_init_0 : decode cX10_init 0 = .ok (.aload_n 0, 1) := by decide +kernel
theorem dX10_init_1 : decode cX10_init 1 = .ok (.invokespecial 1, 3) := by decide +kernel
theorem dX10_init_4 : decode cX10_init 4 = .ok (.aload_n 0, 1) := by decide +kernel
theorem dX10_init_5 : decode cX10_init 5 = .ok (.bipush 120, 2) := by decide +kernel
theorem dX10_init_7 : decode cX10_init 7 = .ok (.newarray .byte, 2) := by decide +kernel
theorem dX10_init_9 : decode cX10_init 9 = .ok (.putfield 9, 3) := by decide +kernel
theorem dX10_init_12 : decode cX10_init 12 = .ok (.aload_n 0, 1) := by decide +kernel
theorem dX10_init_13 : decode cX10_init 13 = .ok (.sipush 2400, 3) := by decide +kernel
theorem dX10_init_16 : decode cX10_init 16 = .ok (.newarray .byte, 2) := by decide +kernel
theorem dX10_init_18 : decode cX10_init 18 = .ok (.putfield 13, 3) := by decide +kernel
theorem dX10_init_21 : decode cX10_init 21 = .ok (.aload_n 0, 1) := by decide +kernel
theorem dX10_init_22 : decode cX10_init 22 = .ok (.bipush 20, 2) := by decide +kernel
theorem dX10_init_24 : decode cX10_init 24 = .ok (.newarray .int, 2) := by decide +kernel
theorem dX10_init_26 : decode cX10_init 26 = .ok (.putfield 16, 3) := by decide +kernel
theorem dX10_init_29 : decode cX10_init 29 = .ok (.aload_n 0, 1) := by decide +kernel
theorem dX10_init_30 : decode cX10_init 30 = .ok (.bipush 20, 2) := by decide +kernel
theorem dX10_init_32 : decode cX10_init 32 = .ok (.newarray .int, 2) := by decide +kernel
theorem dX10_init_34 : decode cX10_init 34 = .ok (.putfield 20, 3) := by decide +kernel
theorem dX10_init_37 : decode cX10_init 37 = .ok (.aload_n 0, 1) := by decide +kernel
theorem dX10_init_38 : decode cX10_init 38 = .ok (.bipush 20, 2) := by decide +kernel
theorem dX10_init_40 : decode cX10_init 40 = .ok (.newarray .int, 2) := by decide +kernel
theorem dX10_init_42 : decode cX10_init 42 = .ok (.putfield 23, 3) := by decide +kernel
theorem dX10_init_45 : decode cX10_init 45 = .ok (.aload_n 0, 1) := by decide +kernel
theorem dX10_init_46 : decode cX10_init 46 = .ok (.bipush 60, 2) := by decide +kernel
theorem dX10_init_48 : decode cX10_init 48 = .ok (.newarray .int, 2) := by decide +kernel
theorem dX10_init_50 : decode cX10_init 50 = .ok (.putfield 26, 3) := by decide +kernel
theorem dX10_init_53 : decode cX10_init 53 = .ok (.aload_n 0, 1) := by decide +kernel
theorem dX10_init_54 : decode cX10_init 54 = .ok (.bipush 60, 2) := by decide +kernel
theorem dX10_init_56 : decode cX10_init 56 = .ok (.newarray .int, 2) := by decide +kernel
theorem dX10_init_58 : decode cX10_init 58 = .ok (.putfield 29, 3) := by decide +kernel
theorem dX10_init_61 : decode cX10_init 61 = .ok (.aload_n 0, 1) := by decide +kernel
theorem dX10_init_62 : decode cX10_init 62 = .ok (.bipush 60, 2) := by decide +kernel
theorem dX10_init_64 : decode cX10_init 64 = .ok (.newarray .int, 2) := by decide +kernel
theorem dX10_init_66 : decode cX10_init 66 = .ok (.putfield 32, 3) := by decide +kernel
theorem dX10_init_69 : decode cX10_init 69 = .ok (.aload_n 0, 1) := by decide +kernel
theorem dX10_init_70 : decode cX10_init 70 = .ok (.bipush 60, 2) := by decide +kernel
theorem dX10_init_72 : decode cX10_init 72 = .ok (.newarray .int, 2) := by decide +kernel
theorem dX10_init_74 : decode cX10_init 74 = .ok (.putfield 35, 3) := by decide +kernel
theorem dX10_init_77 : decode cX10_init 77 = .ok (.aload_n 0, 1) := by decide +kernel
theorem dX10_init_78 : decode cX10_init 78 = .ok (.bipush 100, 2) := by decide +kernel
theorem dX10_init_80 : decode cX10_init 80 = .ok (.newarray .int, 2) := by decide +kernel
theorem dX10_init_82 : decode cX10_init 82 = .ok (.putfield 38, 3) := by decide +kernel
theorem dX10_init_85 : decode cX10_init 85 = .ok (.aload_n 0, 1) := by decide +kernel
theorem dX10_init_86 : decode cX10_init 86 = .ok (.bipush 100, 2) := by decide +kernel
theorem dX10_init_88 : decode cX10_init 88 = .ok (.newarray .int, 2) := by decide +kernel
theorem dX10_init_90 : decode cX10_init 90 = .ok (.putfield 41, 3) := by decide +kernel
theorem dX10_init_93 : decode cX10_init 93 = .ok (.aload_n 0, 1) := by decide +kernel
theorem dX10_init_94 : decode cX10_init 94 = .ok (.bipush 100, 2) := by decide +kernel
theorem dX10_init_96 : decode cX10_init 96 = .ok (.newarray .int, 2) := by decide +kernel
theorem dX10_init_98 : decode cX10_init 98 = .ok (.putfield 44, 3) := by decide +kernel
theorem dX10_init_101 : decode cX10_init 101 = .ok (.aload_n 0, 1) := by decide +kernel
theorem dX10_init_102 : decode cX10_init 102 = .ok (.bipush 100, 2) := by decide +kernel
theorem dX10_init_104 : decode cX10_init 104 = .ok (.newarray .int, 2) := by decide +kernel
theorem dX10_init_106 : decode cX10_init 106 = .ok (.putfield 47, 3) := by decide +kernel
theorem dX10_init_109 : decode cX10_init 109 = .ok (.aload_n 0, 1) := by decide +kernel
theorem dX10_init_110 : decode cX10_init 110 = .ok (.bipush 100, 2) := by decide +kernel
theorem dX10_init_112 : decode cX10_init 112 = .ok (.newarray .int, 2) := by decide +kernel
theorem dX10_init_114 : decode cX10_init 114 = .ok (.putfield 50, 3) := by decide +kernel
theorem dX10_init_117 : decode cX10_init 117 = .ok (.aload_n 0, 1) := by decide +kernel
theorem dX10_init_118 : decode cX10_init 118 = .ok (.bipush 100, 2) := by decide +kernel
theorem dX10_init_120 : decode cX10_init 120 = .ok (.newarray .int, 2) := by decide +kernel
theorem dX10_init_122 : decode cX10_init 122 = .ok (.putfield 53, 3) := by decide +kernel
theorem dX10_init_125 : decode cX10_init 125 = .ok (.aload_n 0, 1) := by decide +kernel
theorem dX10_init_126 : decode cX10_init 126 = .ok (.bipush 100, 2) := by decide +kernel
theorem dX10_init_128 : decode cX10_init 128 = .ok (.newarray .int, 2) := by decide +kernel
theorem dX10_init_130 : decode cX10_init 130 = .ok (.putfield 56, 3) := by decide +kernel
theorem dX10_init_133 : decode cX10_init 133 = .ok (.aload_n 0, 1) := by decide +kernel
theorem dX10_init_134 : decode cX10_init 134 = .ok (.bipush 100, 2) := by decide +kernel
theorem dX10_init_136 : decode cX10_init 136 = .ok (.newarray .int, 2) := by decide +kernel
theorem dX10_init_138 : decode cX10_init 138 = .ok (.putfield 59, 3) := by decide +kernel
theorem dX10_init_141 : decode cX10_init 141 = .ok (.aload_n 0, 1) := by decide +kernel
theorem dX10_init_142 : decode cX10_init 142 = .ok (.bipush 100, 2) := by decide +kernel
theorem dX10_init_144 : decode cX10_init 144 = .ok (.newarray .int, 2) := by decide +kernel
theorem dX10_init_146 : decode cX10_init 146 = .ok (.putfield 62, 3) := by decide +kernel
theorem dX10_init_149 : decode cX10_init 149 = .ok (.aload_n 0, 1) := by decide +kernel
theorem dX10_init_150 : decode cX10_init 150 = .ok (.bipush 6, 2) := by decide +kernel
theorem dX10_init_152 : decode cX10_init 152 = .ok (.newarray .int, 2) := by decide +kernel
theorem dX10_init_154 : decode cX10_init 154 = .ok (.putfield 65, 3) := by decide +kernel
theorem dX10_init_157 : decode cX10_init 157 = .ok (.aload_n 0, 1) := by decide +kernel
theorem dX10_init_158 : decode cX10_init 158 = .ok (.sipush 20000, 3) := by decide +kernel
theorem dX10_init_161 : decode cX10_init 161 = .ok (.newarray .int, 2) := by decide +kernel
theorem dX10_init_163 : decode cX10_init 163 = .ok (.putfield 68, 3) := by decide +kernel
theorem dX10_init_166 : decode cX10_init 166 = .ok (.aload_n 0, 1) := by decide +kernel
theorem dX10_init_167 : decode cX10_init 167 = .ok (.sipush 20000, 3) := by decide +kernel
theorem dX10_init_170 : decode cX10_init 170 = .ok (.newarray .int, 2) := by decide +kernel
theorem dX10_init_172 : decode cX10_init 172 = .ok (.putfield 71, 3) := by decide +kernel
theorem dX10_init_175 : decode cX10_init 175 = .ok (.aload_n 0, 1) := by decide +kernel
theorem dX10_init_176 : decode cX10_init 176 = .ok (.sipush 20000, 3) := by decide +kernel
theorem dX10_init_179 : decode cX10_init 179 = .ok (.newarray .int, 2) := by decide +kernel
theorem dX10_init_181 : decode cX10_init 181 = .ok (.putfield 74, 3) := by decide +kernel
theorem dX10_init_184 : decode cX10_init 184 = .ok (.aload_n 0, 1) := by decide +kernel
theorem dX10_init_185 : decode cX10_init 185 = .ok (.aload_n 0, 1) := by decide +kernel
theorem dX10_init_186 : decode cX10_init 186 = .ok (.getfield 9, 3) := by decide +kernel
theorem dX10_init_189 : decode cX10_init 189 = .ok (.putfield 77, 3) := by decide +kernel
theorem dX10_init_192 : decode cX10_init 192 = .ok (.aload_n 0, 1) := by decide +kernel
theorem dX10_init_193 : decode cX10_init 193 = .ok (.bipush 40, 2) := by decide +kernel
theorem dX10_init_195 : decode cX10_init 195 = .ok (.newarray .int, 2) := by decide +kernel
theorem dX10_init_197 : decode cX10_init 197 = .ok (.putfield 80, 3) := by decide +kernel
theorem dX10_init_200 : decode cX10_init 200 = .ok (.aload_n 0, 1) := by decide +kernel
theorem dX10_init_201 : decode cX10_init 201 = .ok (.bipush 40, 2) := by decide +kernel
theorem dX10_init_203 : decode cX10_init 203 = .ok (.newarray .int, 2) := by decide +kernel
theorem dX10_init_205 : decode cX10_init 205 = .ok (.putfield 83, 3) := by decide +kernel
theorem dX10_init_208 : decode cX10_init 208 = .ok (.aload_n 0, 1) := by decide +kernel
theorem dX10_init_209 : decode cX10_init 209 = .ok (.iconst 2, 1) := by decide +kernel
theorem dX10_init_210 : decode cX10_init 210 = .ok (.newarray .int, 2) := by decide +kernel
theorem dX10_init_212 : decode cX10_init 212 = .ok (.putfield 86, 3) := by decide +kernel
theorem dX10_init_215 : decode cX10_init 215 = .ok (.aload_n 0, 1) := by decide +kernel
theorem dX10_init_216 : decode cX10_init 216 = .ok (.bipush 20, 2) := by decide +kernel
theorem dX10_init_218 : decode cX10_init 218 = .ok (.newarray .int, 2) := by decide +kernel
theorem dX10_init_220 : decode cX10_init 220 = .ok (.putfield 89, 3) := by decide +kernel
theorem dX10_init_223 : decode cX10_init 223 = .ok (.aload_n 0, 1) := by decide +kernel
theorem dX10_init_224 : decode cX10_init 224 = .ok (.bipush 20, 2) := by decide +kernel
theorem dX10_init_226 : decode cX10_init 226 = .ok (.newarray .boolean, 2) := by decide +kernel
theorem dX10_init_228 : decode cX10_init 228 = .ok (.putfield 92, 3) := by decide +kernel
theorem dX10_init_231 : decode cX10_init 231 = .ok (.aload_n 0, 1) := by decide +kernel
theorem dX10_init_232 : decode cX10_init 232 = .ok (.bipush 20, 2) := by decide +kernel
theorem dX10_init_234 : decode cX10_init 234 = .ok (.newarray .boolean, 2) := by decide +kernel
theorem dX10_init_236 : decode cX10_init 236 = .ok (.putfield 96, 3) := by decide +kernel
theorem dX10_init_239 : decode cX10_init 239 = .ok (.aload_n 0, 1) := by decide +kernel
theorem dX10_init_240 : decode cX10_init 240 = .ok (.iconst 3, 1) := by decide +kernel
theorem dX10_init_241 : decode cX10_init 241 = .ok (.putfield 99, 3) := by decide +kernel
theorem dX10_init_244 : decode cX10_init 244 = .ok (.aload_n 0, 1) := by decide +kernel
theorem dX10_init_245 : decode cX10_init 245 = .ok (.iconst (-1), 1) := by decide +kernel
theorem dX10_init_246 : decode cX10_init 246 = .ok (.putfield 103, 3) := by decide +kernel
theorem dX10_init_249 : decode cX10_init 249 = .ok (.iconst 0, 1) := by decide +kernel
theorem dX10_init_250 : decode cX10_init 250 = .ok (.istore_n 1, 1) := by decide +kernel
theorem dX10_init_251 : decode cX10_init 251 = .ok (.iload_n 1, 1) := by decide +kernel
theorem dX10_init_252 : decode cX10_init 252 = .ok (.bipush 6, 2) := by decide +kernel
theorem dX10_init_254 : decode cX10_init 254 = .ok (.if_icmp .ge 16, 3) := by decide +kernel
theorem dX10_init_257 : decode cX10_init 257 = .ok (.aload_n 0, 1) := by decide +kernel
theorem dX10_init_258 : decode cX10_init 258 = .ok (.getfield 65, 3) := by decide +kernel
theorem dX10_init_261 : decode cX10_init 261 = .ok (.iload_n 1, 1) := by decide +kernel
theorem dX10_init_262 : decode cX10_init 262 = .ok (.iconst 1, 1) := by decide +kernel
theorem dX10_init_263 : decode cX10_init 263 = .ok (.iastore, 1) := by decide +kernel
theorem dX10_init_264 : decode cX10_init 264 = .ok (.iinc 1 1, 3) := by decide +kernel
theorem dX10_init_267 : decode cX10_init 267 = .ok (.goto (-16), 3) := by decide +kernel
theorem dX10_init_270 : decode cX10_init 270 = .ok (.return_, 1) := by decide +kernel
theorem dX10_thrown_0 : decode cX10_thrown 0 = .ok (.aload_n 0, 1) := by decide +kernel
theorem dX10_thrown_1 : decode cX10_thrown 1 = .ok (.getfield 106, 3) := by decide +kernel
theorem dX10_thrown_4 : decode cX10_thrown 4 = .ok (.ireturn, 1) := by decide +kernel
theorem dX10_isIn_0 : decode cX10_isIn 0 = .ok (.iload_n 0, 1) := by decide +kernel
theorem dX10_isIn_1 : decode cX10_isIn 1 = .ok (.iload_n 1, 1) := by decide +kernel
theorem dX10_isIn_2 : decode cX10_isIn 2 = .ok (.if_icmp .lt 12, 3) := by decide +kernel
theorem dX10_isIn_5 : decode cX10_isIn 5 = .ok (.iload_n 0, 1) := by decide +kernel
theorem dX10_isIn_6 : decode cX10_isIn 6 = .ok (.iload_n 2, 1) := by decide +kernel
theorem dX10_isIn_7 : decode cX10_isIn 7 = .ok (.if_icmp .gt 7, 3) := by decide +kernel
theorem dX10_isIn_10 : decode cX10_isIn 10 = .ok (.iconst 1, 1) := by decide +kernel
theorem dX10_isIn_11 : decode cX10_isIn 11 = .ok (.goto 4, 3) := by decide +kernel
theorem dX10_isIn_14 : decode cX10_isIn 14 = .ok (.iconst 0, 1) := by decide +kernel
theorem dX10_isIn_15 : decode cX10_isIn 15 = .ok (.ireturn, 1) := by decide +kernel
theorem dX10_bytesIn_0 : decode cX10_bytesIn 0 = .ok (.iconst 0, 1) := by decide +kernel
theorem dX10_bytesIn_1 : decode cX10_bytesIn 1 = .ok (.istore_n 1, 1) := by decide +kernel
theorem dX10_bytesIn_2 : decode cX10_bytesIn 2 = .ok (.bipush 24, 2) := by decide +kernel
theorem dX10_bytesIn_4 : decode cX10_bytesIn 4 = .ok (.istore_n 2, 1) := by decide +kernel
theorem dX10_bytesIn_5 : decode cX10_bytesIn 5 = .ok (.iload_n 2, 1) := by decide +kernel
theorem dX10_bytesIn_6 : decode cX10_bytesIn 6 = .ok (.ifCond .lt 27, 3) := by decide +kernel
theorem dX10_bytesIn_9 : decode cX10_bytesIn 9 = .ok (.iload_n 1, 1) := by decide +kernel
theorem dX10_bytesIn_10 : decode cX10_bytesIn 10 = .ok (.iload_n 0, 1) := by decide +kernel
theorem dX10_bytesIn_11 : decode cX10_bytesIn 11 = .ok (.iload_n 2, 1) := by decide +kernel
theorem dX10_bytesIn_12 : decode cX10_bytesIn 12 = .ok (.ishr, 1) := by decide +kernel
theorem dX10_bytesIn_13 : decode cX10_bytesIn 13 = .ok (.sipush 255, 3) := by decide +kernel
theorem dX10_bytesIn_16 : decode cX10_bytesIn 16 = .ok (.iand, 1) := by decide +kernel
theorem dX10_bytesIn_17 : decode cX10_bytesIn 17 = .ok (.ifCond .eq 7, 3) := by decide +kernel
theorem dX10_bytesIn_20 : decode cX10_bytesIn 20 = .ok (.iconst 1, 1) := by decide +kernel
theorem dX10_bytesIn_21 : decode cX10_bytesIn 21 = .ok (.goto 4, 3) := by decide +kernel
theorem dX10_bytesIn_24 : decode cX10_bytesIn 24 = .ok (.iconst 0, 1) := by decide +kernel
theorem dX10_bytesIn_25 : decode cX10_bytesIn 25 = .ok (.iadd, 1) := by decide +kernel
theorem dX10_bytesIn_26 : decode cX10_bytesIn 26 = .ok (.istore_n 1, 1) := by decide +kernel
theorem dX10_bytesIn_27 : decode cX10_bytesIn 27 = .ok (.iinc 2 (-8), 3) := by decide +kernel
theorem dX10_bytesIn_30 : decode cX10_bytesIn 30 = .ok (.goto (-25), 3) := by decide +kernel
theorem dX10_bytesIn_33 : decode cX10_bytesIn 33 = .ok (.iload_n 1, 1) := by decide +kernel
theorem dX10_bytesIn_34 : decode cX10_bytesIn 34 = .ok (.ireturn, 1) := by decide +kernel
theorem dX10_put_0 : decode cX10_put 0 = .ok (.bipush 24, 2) := by decide +kernel
theorem dX10_put_2 : decode cX10_put 2 = .ok (.istore_n 2, 1) := by decide +kernel
theorem dX10_put_3 : decode cX10_put 3 = .ok (.iload_n 2, 1) := by decide +kernel
theorem dX10_put_4 : decode cX10_put 4 = .ok (.ifCond .lt 45, 3) := by decide +kernel
theorem dX10_put_7 : decode cX10_put 7 = .ok (.iload_n 1, 1) := by decide +kernel
theorem dX10_put_8 : decode cX10_put 8 = .ok (.iload_n 2, 1) := by decide +kernel
theorem dX10_put_9 : decode cX10_put 9 = .ok (.ishr, 1) := by decide +kernel
theorem dX10_put_10 : decode cX10_put 10 = .ok (.sipush 255, 3) := by decide +kernel
theorem dX10_put_13 : decode cX10_put 13 = .ok (.iand, 1) := by decide +kernel
theorem dX10_put_14 : decode cX10_put 14 = .ok (.ifCond .ne 6, 3) := by decide +kernel
theorem dX10_put_17 : decode cX10_put 17 = .ok (.goto 26, 3) := by decide +kernel
theorem dX10_put_20 : decode cX10_put 20 = .ok (.aload_n 0, 1) := by decide +kernel
theorem dX10_put_21 : decode cX10_put 21 = .ok (.getfield 9, 3) := by decide +kernel
theorem dX10_put_24 : decode cX10_put 24 = .ok (.aload_n 0, 1) := by decide +kernel
theorem dX10_put_25 : decode cX10_put 25 = .ok (.getfield 109, 3) := by decide +kernel
theorem dX10_put_28 : decode cX10_put 28 = .ok (.iload_n 1, 1) := by decide +kernel
theorem dX10_put_29 : decode cX10_put 29 = .ok (.iload_n 2, 1) := by decide +kernel
theorem dX10_put_30 : decode cX10_put 30 = .ok (.ishr, 1) := by decide +kernel
theorem dX10_put_31 : decode cX10_put 31 = .ok (.i2b, 1) := by decide +kernel
theorem dX10_put_32 : decode cX10_put 32 = .ok (.bastore, 1) := by decide +kernel
theorem dX10_put_33 : decode cX10_put 33 = .ok (.aload_n 0, 1) := by decide +kernel
theorem dX10_put_34 : decode cX10_put 34 = .ok (.dup, 1) := by decide +kernel
theorem dX10_put_35 : decode cX10_put 35 = .ok (.getfield 109, 3) := by decide +kernel
theorem dX10_put_38 : decode cX10_put 38 = .ok (.iconst 1, 1) := by decide +kernel
theorem dX10_put_39 : decode cX10_put 39 = .ok (.iadd, 1) := by decide +kernel
theorem dX10_put_40 : decode cX10_put 40 = .ok (.putfield 109, 3) := by decide +kernel
theorem dX10_put_43 : decode cX10_put 43 = .ok (.iinc 2 (-8), 3) := by decide +kernel
theorem dX10_put_46 : decode cX10_put 46 = .ok (.goto (-43), 3) := by decide +kernel
theorem dX10_put_49 : decode cX10_put 49 = .ok (.return_, 1) := by decide +kernel
set_option maxRecDepth 20000 in
theorem ggX10_feed_X10_bytesIn : GoodIn wsX10_feed wsX10_bytesIn := goodIn_r _ [6] (by decide +kernel) (by decide +kernel)
set_option maxRecDepth 20000 in
theorem gX10_feed_X10_bytesIn : GoodIn wsX10_feed (va_wsS RX10 112 yX10_bytesIn wsX10_bytesIn) := goodIn_app (goodIn_of _ (by decide +kernel)) ggX10_feed_X10_bytesIn
set_option maxRecDepth 20000 in
theorem ggX10_feed_X10_put : GoodIn wsX10_feed wsX10_put := goodIn_r _ [10, 11, 2, 12, 13, 14, 15, 16, 17, 18, 19, 20, 21, 22, 23, 24, 25, 26, 27, 28, 29, 30, 31, 32, 33, 34, 35, 36, 37, 38, 39, 40, 41, 42, 43, 44, 45, 46, 47, 48, 49, 50, 51, 52, 53, 54, 55, 56, 57, 58, 59, 60, 61] (by decide +kernel) (by decide +kernel)
set_option maxRecDepth 20000 in
theorem gX10_feed_X10_put : GoodIn wsX10_feed (wsV RX10 116 RX10 yX10_put wsX10_put) := goodIn_app (goodIn_of _ (by decide +kernel)) ggX10_feed_X10_put
theorem dX10_feed_0 : decode cX10_feed 0 = .ok (.aload_n 0, 1) := by decide +kernel
theorem dX10_feed_1 : decode cX10_feed 1 = .ok (.iconst 0, 1) := by decide +kernel
theorem dX10_feed_2 : decode cX10_feed 2 = .ok (.putfield 106, 3) := by decide +kernel
theorem dX10_feed_5 : decode cX10_feed 5 = .ok (.aload_n 0, 1) := by decide +kernel
theorem dX10_feed_6 : decode cX10_feed 6 = .ok (.getfield 109, 3) := by decide +kernel
theorem dX10_feed_9 : decode cX10_feed 9 = .ok (.iload_n 1, 1) := by decide +kernel
theorem dX10_feed_10 : decode cX10_feed 10 = .ok (.invokestatic 112, 3) := by decide +kernel
theorem dX10_feed_13 : decode cX10_feed 13 = .ok (.iadd, 1) := by decide +kernel
theorem dX10_feed_14 : decode cX10_feed 14 = .ok (.iload_n 2, 1) := by decide +kernel
theorem dX10_feed_15 : decode cX10_feed 15 = .ok (.invokestatic 112, 3) := by decide +kernel
theorem dX10_feed_18 : decode cX10_feed 18 = .ok (.iadd, 1) := by decide +kernel
theorem dX10_feed_19 : decode cX10_feed 19 = .ok (.iload_n 3, 1) := by decide +kernel
theorem dX10_feed_20 : decode cX10_feed 20 = .ok (.invokestatic 112, 3) := by decide +kernel
theorem dX10_feed_23 : decode cX10_feed 23 = .ok (.iadd, 1) := by decide +kernel
theorem dX10_feed_24 : decode cX10_feed 24 = .ok (.iload 4, 2) := by decide +kernel
theorem dX10_feed_26 : decode cX10_feed 26 = .ok (.invokestatic 112, 3) := by decide +kernel
theorem dX10_feed_29 : decode cX10_feed 29 = .ok (.iadd, 1) := by decide +kernel
theorem dX10_feed_30 : decode cX10_feed 30 = .ok (.iload 5, 2) := by decide +kernel
theorem dX10_feed_32 : decode cX10_feed 32 = .ok (.invokestatic 112, 3) := by decide +kernel
theorem dX10_feed_35 : decode cX10_feed 35 = .ok (.iadd, 1) := by decide +kernel
theorem dX10_feed_36 : decode cX10_feed 36 = .ok (.bipush 120, 2) := by decide +kernel
theorem dX10_feed_38 : decode cX10_feed 38 = .ok (.if_icmp .le 5, 3) := by decide +kernel
theorem dX10_feed_41 : decode cX10_feed 41 = .ok (.iconst (-1), 1) := by decide +kernel
theorem dX10_feed_42 : decode cX10_feed 42 = .ok (.ireturn, 1) := by decide +kernel
theorem dX10_feed_43 : decode cX10_feed 43 = .ok (.aload_n 0, 1) := by decide +kernel
theorem dX10_feed_44 : decode cX10_feed 44 = .ok (.iload_n 1, 1) := by decide +kernel
theorem dX10_feed_45 : decode cX10_feed 45 = .ok (.invokevirtual 116, 3) := by decide +kernel
theorem dX10_feed_48 : decode cX10_feed 48 = .ok (.aload_n 0, 1) := by decide +kernel
theorem dX10_feed_49 : decode cX10_feed 49 = .ok (.iload_n 2, 1) := by decide +kernel
theorem dX10_feed_50 : decode cX10_feed 50 = .ok (.invokevirtual 116, 3) := by decide +kernel
theorem dX10_feed_53 : decode cX10_feed 53 = .ok (.aload_n 0, 1) := by decide +kernel
theorem dX10_feed_54 : decode cX10_feed 54 = .ok (.iload_n 3, 1) := by decide +kernel
theorem dX10_feed_55 : decode cX10_feed 55 = .ok (.invokevirtual 116, 3) := by decide +kernel
theorem dX10_feed_58 : decode cX10_feed 58 = .ok (.aload_n 0, 1) := by decide +kernel
theorem dX10_feed_59 : decode cX10_feed 59 = .ok (.iload 4, 2) := by decide +kernel
theorem dX10_feed_61 : decode cX10_feed 61 = .ok (.invokevirtual 116, 3) := by decide +kernel
theorem dX10_feed_64 : decode cX10_feed 64 = .ok (.aload_n 0, 1) := by decide +kernel
theorem dX10_feed_65 : decode cX10_feed 65 = .ok (.iload 5, 2) := by decide +kernel
theorem dX10_feed_67 : decode cX10_feed 67 = .ok (.invokevirtual 116, 3) := by decide +kernel
theorem dX10_feed_70 : decode cX10_feed 70 = .ok (.aload_n 0, 1) := by decide +kernel
theorem dX10_feed_71 : decode cX10_feed 71 = .ok (.getfield 109, 3) := by decide +kernel
theorem dX10_feed_74 : decode cX10_feed 74 = .ok (.ireturn, 1) := by decide +kernel
theorem dX10_end_0 : decode cX10_end 0 = .ok (.aload_n 0, 1) := by decide +kernel
theorem dX10_end_1 : decode cX10_end 1 = .ok (.iconst 0, 1) := by decide +kernel
theorem dX10_end_2 : decode cX10_end 2 = .ok (.putfield 106, 3) := by decide +kernel
theorem dX10_end_5 : decode cX10_end 5 = .ok (.iload_n 1, 1) := by decide +kernel
theorem dX10_end_6 : decode cX10_end 6 = .ok (.ifCond .lt 11, 3) := by decide +kernel
theorem dX10_end_9 : decode cX10_end 9 = .ok (.iload_n 1, 1) := by decide +kernel
theorem dX10_end_10 : decode cX10_end 10 = .ok (.aload_n 0, 1) := by decide +kernel
theorem dX10_end_11 : decode cX10_end 11 = .ok (.getfield 109, 3) := by decide +kernel
theorem dX10_end_14 : decode cX10_end 14 = .ok (.if_icmp .le 5, 3) := by decide +kernel
theorem dX10_end_17 : decode cX10_end 17 = .ok (.iconst 0, 1) := by decide +kernel
theorem dX10_end_18 : decode cX10_end 18 = .ok (.ireturn, 1) := by decide +kernel
theorem dX10_end_19 : decode cX10_end 19 = .ok (.aload_n 0, 1) := by decide +kernel
theorem dX10_end_20 : decode cX10_end 20 = .ok (.iload_n 1, 1) := by decide +kernel
theorem dX10_end_21 : decode cX10_end 21 = .ok (.putfield 109, 3) := by decide +kernel
theorem dX10_end_24 : decode cX10_end 24 = .ok (.iconst 1, 1) := by decide +kernel
theorem dX10_end_25 : decode cX10_end 25 = .ok (.ireturn, 1) := by decide +kernel
theorem dX10_look_0 : decode cX10_look 0 = .ok (.aload_n 0, 1) := by decide +kernel
theorem dX10_look_1 : decode cX10_look 1 = .ok (.getfield 120, 3) := by decide +kernel
theorem dX10_look_4 : decode cX10_look 4 = .ok (.aload_n 0, 1) := by decide +kernel
theorem dX10_look_5 : decode cX10_look 5 = .ok (.getfield 123, 3) := by decide +kernel
theorem dX10_look_8 : decode cX10_look 8 = .ok (.if_icmp .ge 35, 3) := by decide +kernel
theorem dX10_look_11 : decode cX10_look 11 = .ok (.aload_n 0, 1) := by decide +kernel
theorem dX10_look_12 : decode cX10_look 12 = .ok (.getfield 77, 3) := by decide +kernel
theorem dX10_look_15 : decode cX10_look 15 = .ok (.aload_n 0, 1) := by decide +kernel
theorem dX10_look_16 : decode cX10_look 16 = .ok (.getfield 126, 3) := by decide +kernel
theorem dX10_look_19 : decode cX10_look 19 = .ok (.aload_n 0, 1) := by decide +kernel
theorem dX10_look_20 : decode cX10_look 20 = .ok (.getfield 120, 3) := by decide +kernel
theorem dX10_look_23 : decode cX10_look 23 = .ok (.iadd, 1) := by decide +kernel
theorem dX10_look_24 : decode cX10_look 24 = .ok (.baload, 1) := by decide +kernel
theorem dX10_look_25 : decode cX10_look 25 = .ok (.bipush 32, 2) := by decide +kernel
theorem dX10_look_27 : decode cX10_look 27 = .ok (.if_icmp .ne 16, 3) := by decide +kernel
theorem dX10_look_30 : decode cX10_look 30 = .ok (.aload_n 0, 1) := by decide +kernel
theorem dX10_look_31 : decode cX10_look 31 = .ok (.dup, 1) := by decide +kernel
theorem dX10_look_32 : decode cX10_look 32 = .ok (.getfield 120, 3) := by decide +kernel
theorem dX10_look_35 : decode cX10_look 35 = .ok (.iconst 1, 1) := by decide +kernel
theorem dX10_look_36 : decode cX10_look 36 = .ok (.iadd, 1) := by decide +kernel
theorem dX10_look_37 : decode cX10_look 37 = .ok (.putfield 120, 3) := by decide +kernel
theorem dX10_look_40 : decode cX10_look 40 = .ok (.goto (-40), 3) := by decide +kernel
theorem dX10_look_43 : decode cX10_look 43 = .ok (.aload_n 0, 1) := by decide +kernel
theorem dX10_look_44 : decode cX10_look 44 = .ok (.getfield 120, 3) := by decide +kernel
theorem dX10_look_47 : decode cX10_look 47 = .ok (.aload_n 0, 1) := by decide +kernel
theorem dX10_look_48 : decode cX10_look 48 = .ok (.getfield 123, 3) := by decide +kernel
theorem dX10_look_51 : decode cX10_look 51 = .ok (.if_icmp .ge 24, 3) := by decide +kernel
theorem dX10_look_54 : decode cX10_look 54 = .ok (.aload_n 0, 1) := by decide +kernel
theorem dX10_look_55 : decode cX10_look 55 = .ok (.getfield 77, 3) := by decide +kernel
theorem dX10_look_58 : decode cX10_look 58 = .ok (.aload_n 0, 1) := by decide +kernel
theorem dX10_look_59 : decode cX10_look 59 = .ok (.getfield 126, 3) := by decide +kernel
theorem dX10_look_62 : decode cX10_look 62 = .ok (.aload_n 0, 1) := by decide +kernel
theorem dX10_look_63 : decode cX10_look 63 = .ok (.getfield 120, 3) := by decide +kernel
theorem dX10_look_66 : decode cX10_look 66 = .ok (.iadd, 1) := by decide +kernel
theorem dX10_look_67 : decode cX10_look 67 = .ok (.baload, 1) := by decide +kernel
theorem dX10_look_68 : decode cX10_look 68 = .ok (.sipush 255, 3) := by decide +kernel
theorem dX10_look_71 : decode cX10_look 71 = .ok (.iand, 1) := by decide +kernel
theorem dX10_look_72 : decode cX10_look 72 = .ok (.goto 4, 3) := by decide +kernel
theorem dX10_look_75 : decode cX10_look 75 = .ok (.iconst (-1), 1) := by decide +kernel
theorem dX10_look_76 : decode cX10_look 76 = .ok (.ireturn, 1) := by decide +kernel
theorem dX10_wrong_0 : decode cX10_wrong 0 = .ok (.aload_n 0, 1) := by decide +kernel
theorem dX10_wrong_1 : decode cX10_wrong 1 = .ok (.getfield 129, 3) := by decide +kernel
theorem dX10_wrong_4 : decode cX10_wrong 4 = .ok (.iconst (-1), 1) := by decide +kernel
theorem dX10_wrong_5 : decode cX10_wrong 5 = .ok (.if_icmp .ne 11, 3) := by decide +kernel
theorem dX10_wrong_8 : decode cX10_wrong 8 = .ok (.aload_n 0, 1) := by decide +kernel
theorem dX10_wrong_9 : decode cX10_wrong 9 = .ok (.aload_n 0, 1) := by decide +kernel
theorem dX10_wrong_10 : decode cX10_wrong 10 = .ok (.getfield 120, 3) := by decide +kernel
theorem dX10_wrong_13 : decode cX10_wrong 13 = .ok (.putfield 129, 3) := by decide +kernel
theorem dX10_wrong_16 : decode cX10_wrong 16 = .ok (.lconst 0, 1) := by decide +kernel
theorem dX10_wrong_17 : decode cX10_wrong 17 = .ok (.lreturn, 1) := by decide +kernel
theorem dX10_bound_0 : decode cX10_bound 0 = .ok (.ldc2_w 132, 3) := by decide +kernel
theorem dX10_bound_3 : decode cX10_bound 3 = .ok (.ldc2_w 134, 3) := by decide +kernel
theorem dX10_bound_6 : decode cX10_bound 6 = .ok (.lload_n 0, 1) := by decide +kernel
theorem dX10_bound_7 : decode cX10_bound 7 = .ok (.invokestatic 136, 3) := by decide +kernel
theorem dX10_bound_10 : decode cX10_bound 10 = .ok (.invokestatic 142, 3) := by decide +kernel
theorem dX10_bound_13 : decode cX10_bound 13 = .ok (.lreturn, 1) := by decide +kernel
theorem dX10_isDigit_0 : decode cX10_isDigit 0 = .ok (.aload_n 0, 1) := by decide +kernel
theorem dX10_isDigit_1 : decode cX10_isDigit 1 = .ok (.getfield 120, 3) := by decide +kernel
theorem dX10_isDigit_4 : decode cX10_isDigit 4 = .ok (.aload_n 0, 1) := by decide +kernel
theorem dX10_isDigit_5 : decode cX10_isDigit 5 = .ok (.getfield 123, 3) := by decide +kernel
theorem dX10_isDigit_8 : decode cX10_isDigit 8 = .ok (.if_icmp .ge 45, 3) := by decide +kernel
theorem dX10_isDigit_11 : decode cX10_isDigit 11 = .ok (.aload_n 0, 1) := by decide +kernel
theorem dX10_isDigit_12 : decode cX10_isDigit 12 = .ok (.getfield 77, 3) := by decide +kernel
theorem dX10_isDigit_15 : decode cX10_isDigit 15 = .ok (.aload_n 0, 1) := by decide +kernel
theorem dX10_isDigit_16 : decode cX10_isDigit 16 = .ok (.getfield 126, 3) := by decide +kernel
theorem dX10_isDigit_19 : decode cX10_isDigit 19 = .ok (.aload_n 0, 1) := by decide +kernel
theorem dX10_isDigit_20 : decode cX10_isDigit 20 = .ok (.getfield 120, 3) := by decide +kernel
theorem dX10_isDigit_23 : decode cX10_isDigit 23 = .ok (.iadd, 1) := by decide +kernel
theorem dX10_isDigit_24 : decode cX10_isDigit 24 = .ok (.baload, 1) := by decide +kernel
theorem dX10_isDigit_25 : decode cX10_isDigit 25 = .ok (.bipush 48, 2) := by decide +kernel
theorem dX10_isDigit_27 : decode cX10_isDigit 27 = .ok (.if_icmp .lt 26, 3) := by decide +kernel
theorem dX10_isDigit_30 : decode cX10_isDigit 30 = .ok (.aload_n 0, 1) := by decide +kernel
theorem dX10_isDigit_31 : decode cX10_isDigit 31 = .ok (.getfield 77, 3) := by decide +kernel
theorem dX10_isDigit_34 : decode cX10_isDigit 34 = .ok (.aload_n 0, 1) := by decide +kernel
theorem dX10_isDigit_35 : decode cX10_isDigit 35 = .ok (.getfield 126, 3) := by decide +kernel
theorem dX10_isDigit_38 : decode cX10_isDigit 38 = .ok (.aload_n 0, 1) := by decide +kernel
theorem dX10_isDigit_39 : decode cX10_isDigit 39 = .ok (.getfield 120, 3) := by decide +kernel
theorem dX10_isDigit_42 : decode cX10_isDigit 42 = .ok (.iadd, 1) := by decide +kernel
theorem dX10_isDigit_43 : decode cX10_isDigit 43 = .ok (.baload, 1) := by decide +kernel
theorem dX10_isDigit_44 : decode cX10_isDigit 44 = .ok (.bipush 57, 2) := by decide +kernel
theorem dX10_isDigit_46 : decode cX10_isDigit 46 = .ok (.if_icmp .gt 7, 3) := by decide +kernel
theorem dX10_isDigit_49 : decode cX10_isDigit 49 = .ok (.iconst 1, 1) := by decide +kernel
theorem dX10_isDigit_50 : decode cX10_isDigit 50 = .ok (.goto 4, 3) := by decide +kernel
theorem dX10_isDigit_53 : decode cX10_isDigit 53 = .ok (.iconst 0, 1) := by decide +kernel
theorem dX10_isDigit_54 : decode cX10_isDigit 54 = .ok (.ireturn, 1) := by decide +kernel
set_option maxRecDepth 20000 in
theorem ggX10_factor_X10_look : GoodIn wsX10_factor wsX10_look := goodIn_r _ [14, 1, 15, 7, 8, 51, 52, 53, 54, 55, 56, 57, 58, 59, 60, 61, 62, 63, 64, 65, 66, 67, 68, 69, 70, 71, 72, 73, 74, 75, 76, 77, 78, 79, 80, 81, 82, 83, 84, 85, 86, 87, 88, 89, 90, 91, 92, 93, 94, 95, 96, 97, 98, 99, 100] (by decide +kernel) (by decide +kernel)
set_option maxRecDepth 20000 in
theorem gX10_factor_X10_look : GoodIn wsX10_factor (wsV RX10 145 RX10 yX10_look wsX10_look) := goodIn_app (goodIn_of _ (by decide +kernel)) ggX10_factor_X10_look
set_option maxRecDepth 20000 in
theorem ggX10_factor_X10_wrong : GoodIn wsX10_factor wsX10_wrong := goodIn_r _ [19, 5, 1, 51, 52, 53, 54, 55, 56, 57, 58, 59, 60, 61, 62, 63, 64, 65, 66, 67, 68, 69, 70, 71, 72, 73, 74, 75, 76, 77, 78, 79, 80, 81, 82, 83, 84, 85, 86, 87, 88, 89, 90, 91, 92, 93, 94, 95, 96, 97, 98, 99, 100] (by decide +kernel) (by decide +kernel)
set_option maxRecDepth 20000 in
theorem gX10_factor_X10_wrong : GoodIn wsX10_factor (wsV RX10 159 RX10 yX10_wrong wsX10_wrong) := goodIn_app (goodIn_of _ (by decide +kernel)) ggX10_factor_X10_wrong
set_option maxRecDepth 20000 in
theorem ggX10_factor_X10_sums : GoodIn wsX10_factor wsX10_sums := goodIn_r _ [47, 5, 1, 48, 49, 50, 13, 10, 11, 12, 14, 15, 7, 8, 35, 36, 37, 38, 39, 40, 41, 42, 43, 44, 45, 46, 0, 2, 3, 4, 6, 9, 16, 17, 18, 19, 20, 21, 22, 23, 24, 25, 26, 27, 28, 29, 30, 31, 32, 33, 34, 51, 52, 53, 54, 55, 56, 57, 58, 59, 60, 61, 62, 63, 64, 65, 66, 67, 68, 69, 70, 71, 72, 73, 74, 75, 76, 77, 78, 79, 80, 81, 82, 83, 84, 85, 86, 87, 88, 89, 90, 91, 92, 93, 94, 95, 96, 97, 98, 99, 100] (by decide +kernel) (by decide +kernel)
set_option maxRecDepth 20000 in
theorem gX10_factor_X10_sums : GoodIn wsX10_factor (wsV RX10 163 RX10 yX10_sums wsX10_sums) := goodIn_app (goodIn_of _ (by decide +kernel)) ggX10_factor_X10_sums
set_option maxRecDepth 20000 in
theorem ggX10_factor_X10_isDigit : GoodIn wsX10_factor wsX10_isDigit := goodIn_r _ [26, 1, 15, 7, 8, 51, 52, 53, 54, 55, 56, 57, 58, 59, 60, 61, 62, 63, 64, 65, 66, 67, 68, 69, 70, 71, 72, 73, 74, 75, 76, 77, 78, 79, 80, 81, 82, 83, 84, 85, 86, 87, 88, 89, 90, 91, 92, 93, 94, 95, 96, 97, 98, 99, 100] (by decide +kernel) (by decide +kernel)
set_option maxRecDepth 20000 in
theorem gX10_factor_X10_isDigit : GoodIn wsX10_factor (wsV RX10 166 RX10 yX10_isDigit wsX10_isDigit) := goodIn_app (goodIn_of _ (by decide +kernel)) ggX10_factor_X10_isDigit
theorem dX10_factor_0 : decode cX10_factor 0 = .ok (.aload_n 0, 1) := by decide +kernel
theorem dX10_factor_1 : decode cX10_factor 1 = .ok (.invokevirtual 145, 3) := by decide +kernel
theorem dX10_factor_4 : decode cX10_factor 4 = .ok (.istore_n 1, 1) := by decide +kernel
theorem dX10_factor_5 : decode cX10_factor 5 = .ok (.iload_n 1, 1) := by decide +kernel
theorem dX10_factor_6 : decode cX10_factor 6 = .ok (.bipush 100, 2) := by decide +kernel
theorem dX10_factor_8 : decode cX10_factor 8 = .ok (.if_icmp .eq 9, 3) := by decide +kernel
theorem dX10_factor_11 : decode cX10_factor 11 = .ok (.iload_n 1, 1) := by decide +kernel
theorem dX10_factor_12 : decode cX10_factor 12 = .ok (.bipush 108, 2) := by decide +kernel
theorem dX10_factor_14 : decode cX10_factor 14 = .ok (.if_icmp .ne 31, 3) := by decide +kernel
theorem dX10_factor_17 : decode cX10_factor 17 = .ok (.aload_n 0, 1) := by decide +kernel
theorem dX10_factor_18 : decode cX10_factor 18 = .ok (.dup, 1) := by decide +kernel
theorem dX10_factor_19 : decode cX10_factor 19 = .ok (.getfield 120, 3) := by decide +kernel
theorem dX10_factor_22 : decode cX10_factor 22 = .ok (.iconst 1, 1) := by decide +kernel
theorem dX10_factor_23 : decode cX10_factor 23 = .ok (.iadd, 1) := by decide +kernel
theorem dX10_factor_24 : decode cX10_factor 24 = .ok (.putfield 120, 3) := by decide +kernel
theorem dX10_factor_27 : decode cX10_factor 27 = .ok (.iload_n 1, 1) := by decide +kernel
theorem dX10_factor_28 : decode cX10_factor 28 = .ok (.bipush 100, 2) := by decide +kernel
theorem dX10_factor_30 : decode cX10_factor 30 = .ok (.if_icmp .ne 10, 3) := by decide +kernel
theorem dX10_factor_33 : decode cX10_factor 33 = .ok (.aload_n 0, 1) := by decide +kernel
theorem dX10_factor_34 : decode cX10_factor 34 = .ok (.getfield 149, 3) := by decide +kernel
theorem dX10_factor_37 : decode cX10_factor 37 = .ok (.goto 7, 3) := by decide +kernel
theorem dX10_factor_40 : decode cX10_factor 40 = .ok (.aload_n 0, 1) := by decide +kernel
theorem dX10_factor_41 : decode cX10_factor 41 = .ok (.getfield 153, 3) := by decide +kernel
theorem dX10_factor_44 : decode cX10_factor 44 = .ok (.lreturn, 1) := by decide +kernel
theorem dX10_factor_45 : decode cX10_factor 45 = .ok (.iload_n 1, 1) := by decide +kernel
theorem dX10_factor_46 : decode cX10_factor 46 = .ok (.bipush 40, 2) := by decide +kernel
theorem dX10_factor_48 : decode cX10_factor 48 = .ok (.if_icmp .ne 88, 3) := by decide +kernel
theorem dX10_factor_51 : decode cX10_factor 51 = .ok (.aload_n 0, 1) := by decide +kernel
theorem dX10_factor_52 : decode cX10_factor 52 = .ok (.getfield 156, 3) := by decide +kernel
theorem dX10_factor_55 : decode cX10_factor 55 = .ok (.bipush 8, 2) := by decide +kernel
theorem dX10_factor_57 : decode cX10_factor 57 = .ok (.if_icmp .ne 8, 3) := by decide +kernel
theorem dX10_factor_60 : decode cX10_factor 60 = .ok (.aload_n 0, 1) := by decide +kernel
theorem dX10_factor_61 : decode cX10_factor 61 = .ok (.invokevirtual 159, 3) := by decide +kernel
theorem dX10_factor_64 : decode cX10_factor 64 = .ok (.lreturn, 1) := by decide +kernel
theorem dX10_factor_65 : decode cX10_factor 65 = .ok (.aload_n 0, 1) := by decide +kernel
theorem dX10_factor_66 : decode cX10_factor 66 = .ok (.dup, 1) := by decide +kernel
theorem dX10_factor_67 : decode cX10_factor 67 = .ok (.getfield 156, 3) := by decide +kernel
theorem dX10_factor_70 : decode cX10_factor 70 = .ok (.iconst 1, 1) := by decide +kernel
theorem dX10_factor_71 : decode cX10_factor 71 = .ok (.iadd, 1) := by decide +kernel
theorem dX10_factor_72 : decode cX10_factor 72 = .ok (.putfield 156, 3) := by decide +kernel
theorem dX10_factor_75 : decode cX10_factor 75 = .ok (.aload_n 0, 1) := by decide +kernel
theorem dX10_factor_76 : decode cX10_factor 76 = .ok (.dup, 1) := by decide +kernel
theorem dX10_factor_77 : decode cX10_factor 77 = .ok (.getfield 120, 3) := by decide +kernel
theorem dX10_factor_80 : decode cX10_factor 80 = .ok (.iconst 1, 1) := by decide +kernel
theorem dX10_factor_81 : decode cX10_factor 81 = .ok (.iadd, 1) := by decide +kernel
theorem dX10_factor_82 : decode cX10_factor 82 = .ok (.putfield 120, 3) := by decide +kernel
theorem dX10_factor_85 : decode cX10_factor 85 = .ok (.aload_n 0, 1) := by decide +kernel
theorem dX10_factor_86 : decode cX10_factor 86 = .ok (.invokevirtual 163, 3) := by decide +kernel
theorem dX10_factor_89 : decode cX10_factor 89 = .ok (.lstore_n 2, 1) := by decide +kernel
theorem dX10_factor_90 : decode cX10_factor 90 = .ok (.aload_n 0, 1) := by decide +kernel
theorem dX10_factor_91 : decode cX10_factor 91 = .ok (.getfield 129, 3) := by decide +kernel
theorem dX10_factor_94 : decode cX10_factor 94 = .ok (.iconst (-1), 1) := by decide +kernel
theorem dX10_factor_95 : decode cX10_factor 95 = .ok (.if_icmp .eq 5, 3) := by decide +kernel
theorem dX10_factor_98 : decode cX10_factor 98 = .ok (.lconst 0, 1) := by decide +kernel
theorem dX10_factor_99 : decode cX10_factor 99 = .ok (.lreturn, 1) := by decide +kernel
theorem dX10_factor_100 : decode cX10_factor 100 = .ok (.aload_n 0, 1) := by decide +kernel
theorem dX10_factor_101 : decode cX10_factor 101 = .ok (.invokevirtual 145, 3) := by decide +kernel
theorem dX10_factor_104 : decode cX10_factor 104 = .ok (.bipush 41, 2) := by decide +kernel
theorem dX10_factor_106 : decode cX10_factor 106 = .ok (.if_icmp .eq 8, 3) := by decide +kernel
theorem dX10_factor_109 : decode cX10_factor 109 = .ok (.aload_n 0, 1) := by decide +kernel
theorem dX10_factor_110 : decode cX10_factor 110 = .ok (.invokevirtual 159, 3) := by decide +kernel
theorem dX10_factor_113 : decode cX10_factor 113 = .ok (.lreturn, 1) := by decide +kernel
theorem dX10_factor_114 : decode cX10_factor 114 = .ok (.aload_n 0, 1) := by decide +kernel
theorem dX10_factor_115 : decode cX10_factor 115 = .ok (.dup, 1) := by decide +kernel
theorem dX10_factor_116 : decode cX10_factor 116 = .ok (.getfield 120, 3) := by decide +kernel
theorem dX10_factor_119 : decode cX10_factor 119 = .ok (.iconst 1, 1) := by decide +kernel
theorem dX10_factor_120 : decode cX10_factor 120 = .ok (.iadd, 1) := by decide +kernel
theorem dX10_factor_121 : decode cX10_factor 121 = .ok (.putfield 120, 3) := by decide +kernel
theorem dX10_factor_124 : decode cX10_factor 124 = .ok (.aload_n 0, 1) := by decide +kernel
theorem dX10_factor_125 : decode cX10_factor 125 = .ok (.dup, 1) := by decide +kernel
theorem dX10_factor_126 : decode cX10_factor 126 = .ok (.getfield 156, 3) := by decide +kernel
theorem dX10_factor_129 : decode cX10_factor 129 = .ok (.iconst 1, 1) := by decide +kernel
theorem dX10_factor_130 : decode cX10_factor 130 = .ok (.isub, 1) := by decide +kernel
theorem dX10_factor_131 : decode cX10_factor 131 = .ok (.putfield 156, 3) := by decide +kernel
theorem dX10_factor_134 : decode cX10_factor 134 = .ok (.lload_n 2, 1) := by decide +kernel
theorem dX10_factor_135 : decode cX10_factor 135 = .ok (.lreturn, 1) := by decide +kernel
theorem dX10_factor_136 : decode cX10_factor 136 = .ok (.aload_n 0, 1) := by decide +kernel
theorem dX10_factor_137 : decode cX10_factor 137 = .ok (.invokevirtual 166, 3) := by decide +kernel
theorem dX10_factor_140 : decode cX10_factor 140 = .ok (.ifCond .ne 8, 3) := by decide +kernel
theorem dX10_factor_143 : decode cX10_factor 143 = .ok (.aload_n 0, 1) := by decide +kernel
theorem dX10_factor_144 : decode cX10_factor 144 = .ok (.invokevirtual 159, 3) := by decide +kernel
theorem dX10_factor_147 : decode cX10_factor 147 = .ok (.lreturn, 1) := by decide +kernel
theorem dX10_factor_148 : decode cX10_factor 148 = .ok (.lconst 0, 1) := by decide +kernel
theorem dX10_factor_149 : decode cX10_factor 149 = .ok (.lstore_n 2, 1) := by decide +kernel
theorem dX10_factor_150 : decode cX10_factor 150 = .ok (.iconst 0, 1) := by decide +kernel
theorem dX10_factor_151 : decode cX10_factor 151 = .ok (.istore 4, 2) := by decide +kernel
theorem dX10_factor_153 : decode cX10_factor 153 = .ok (.aload_n 0, 1) := by decide +kernel
theorem dX10_factor_154 : decode cX10_factor 154 = .ok (.invokevirtual 166, 3) := by decide +kernel
theorem dX10_factor_157 : decode cX10_factor 157 = .ok (.ifCond .eq 56, 3) := by decide +kernel
theorem dX10_factor_160 : decode cX10_factor 160 = .ok (.iload 4, 2) := by decide +kernel
theorem dX10_factor_162 : decode cX10_factor 162 = .ok (.iconst 5, 1) := by decide +kernel
theorem dX10_factor_163 : decode cX10_factor 163 = .ok (.if_icmp .ne 8, 3) := by decide +kernel
theorem dX10_factor_166 : decode cX10_factor 166 = .ok (.aload_n 0, 1) := by decide +kernel
theorem dX10_factor_167 : decode cX10_factor 167 = .ok (.invokevirtual 159, 3) := by decide +kernel
theorem dX10_factor_170 : decode cX10_factor 170 = .ok (.lreturn, 1) := by decide +kernel
theorem dX10_factor_171 : decode cX10_factor 171 = .ok (.ldc2_w 170, 3) := by decide +kernel
theorem dX10_factor_174 : decode cX10_factor 174 = .ok (.lload_n 2, 1) := by decide +kernel
theorem dX10_factor_175 : decode cX10_factor 175 = .ok (.lmul, 1) := by decide +kernel
theorem dX10_factor_176 : decode cX10_factor 176 = .ok (.aload_n 0, 1) := by decide +kernel
theorem dX10_factor_177 : decode cX10_factor 177 = .ok (.getfield 77, 3) := by decide +kernel
theorem dX10_factor_180 : decode cX10_factor 180 = .ok (.aload_n 0, 1) := by decide +kernel
theorem dX10_factor_181 : decode cX10_factor 181 = .ok (.getfield 126, 3) := by decide +kernel
theorem dX10_factor_184 : decode cX10_factor 184 = .ok (.aload_n 0, 1) := by decide +kernel
theorem dX10_factor_185 : decode cX10_factor 185 = .ok (.getfield 120, 3) := by decide +kernel
theorem dX10_factor_188 : decode cX10_factor 188 = .ok (.iadd, 1) := by decide +kernel
theorem dX10_factor_189 : decode cX10_factor 189 = .ok (.baload, 1) := by decide +kernel
theorem dX10_factor_190 : decode cX10_factor 190 = .ok (.i2l, 1) := by decide +kernel
theorem dX10_factor_191 : decode cX10_factor 191 = .ok (.ladd, 1) := by decide +kernel
theorem dX10_factor_192 : decode cX10_factor 192 = .ok (.ldc2_w 172, 3) := by decide +kernel
theorem dX10_factor_195 : decode cX10_factor 195 = .ok (.lsub, 1) := by decide +kernel
theorem dX10_factor_196 : decode cX10_factor 196 = .ok (.lstore_n 2, 1) := by decide +kernel
theorem dX10_factor_197 : decode cX10_factor 197 = .ok (.iinc 4 1, 3) := by decide +kernel
theorem dX10_factor_200 : decode cX10_factor 200 = .ok (.aload_n 0, 1) := by decide +kernel
theorem dX10_factor_201 : decode cX10_factor 201 = .ok (.dup, 1) := by decide +kernel
theorem dX10_factor_202 : decode cX10_factor 202 = .ok (.getfield 120, 3) := by decide +kernel
theorem dX10_factor_205 : decode cX10_factor 205 = .ok (.iconst 1, 1) := by decide +kernel
theorem dX10_factor_206 : decode cX10_factor 206 = .ok (.iadd, 1) := by decide +kernel
theorem dX10_factor_207 : decode cX10_factor 207 = .ok (.putfield 120, 3) := by decide +kernel
theorem dX10_factor_210 : decode cX10_factor 210 = .ok (.goto (-57), 3) := by decide +kernel
theorem dX10_factor_213 : decode cX10_factor 213 = .ok (.lload_n 2, 1) := by decide +kernel
theorem dX10_factor_214 : decode cX10_factor 214 = .ok (.lreturn, 1) := by decide +kernel
set_option maxRecDepth 20000 in
theorem ggX10_product_X10_factor : GoodIn wsX10_product wsX10_factor := goodIn_r _ [30, 2, 31, 32, 33, 1, 34, 12, 13, 35, 7, 8, 9, 6, 10, 11, 36, 37, 38, 39, 40, 41, 42, 43, 44, 45, 46, 0, 3, 4, 5, 14, 15, 16, 17, 18, 19, 20, 21, 22, 23, 24, 25, 26, 27, 28, 29, 47, 48, 49, 50, 51, 52, 53, 54, 55, 56, 57, 58, 59, 60, 61, 62, 63, 64, 65, 66, 67, 68, 69, 70, 71, 72, 73, 74, 75, 76, 77, 78, 79, 80, 81, 82, 83, 84, 85, 86, 87, 88, 89, 90, 91, 92, 93, 94, 95, 96, 97, 98, 99, 100] (by decide +kernel) (by decide +kernel)
set_option maxRecDepth 20000 in
theorem gX10_product_X10_factor : GoodIn wsX10_product (wsV RX10 174 RX10 yX10_factor wsX10_factor) := goodIn_app (goodIn_of _ (by decide +kernel)) ggX10_product_X10_factor
set_option maxRecDepth 20000 in
theorem ggX10_product_X10_look : GoodIn wsX10_product wsX10_look := goodIn_r _ [10, 2, 11, 12, 13, 51, 52, 53, 54, 55, 56, 57, 58, 59, 60, 61, 62, 63, 64, 65, 66, 67, 68, 69, 70, 71, 72, 73, 74, 75, 76, 77, 78, 79, 80, 81, 82, 83, 84, 85, 86, 87, 88, 89, 90, 91, 92, 93, 94, 95, 96, 97, 98, 99, 100] (by decide +kernel) (by decide +kernel)
set_option maxRecDepth 20000 in
theorem gX10_product_X10_look : GoodIn wsX10_product (wsV RX10 145 RX10 yX10_look wsX10_look) := goodIn_app (goodIn_of _ (by decide +kernel)) ggX10_product_X10_look
set_option maxRecDepth 20000 in
theorem ggX10_product_J9_floorDiv_f86c9 : GoodIn wsX10_product wsJ9_floorDiv_f86c9 := goodIn_r _ [17] (by decide +kernel) (by decide +kernel)
set_option maxRecDepth 20000 in
theorem gX10_product_J9_floorDiv_f86c9 : GoodIn wsX10_product (va_wsS RX10 177 yJ9_floorDiv_f86c9 wsJ9_floorDiv_f86c9) := goodIn_app (goodIn_of _ (by decide +kernel)) ggX10_product_J9_floorDiv_f86c9
set_option maxRecDepth 20000 in
theorem ggX10_product_X10_bound : GoodIn wsX10_product wsX10_bound := goodIn_r _ [20, 21, 22, 23, 24, 25, 26, 27, 28, 29] (by decide +kernel) (by decide +kernel)
set_option maxRecDepth 20000 in
theorem gX10_product_X10_bound : GoodIn wsX10_product (va_wsS RX10 180 yX10_bound wsX10_bound) := goodIn_app (goodIn_of _ (by decide +kernel)) ggX10_product_X10_bound
theorem dX10_product_0 : decode cX10_product 0 = .ok (.aload_n 0, 1) := by decide +kernel
theorem dX10_product_1 : decode cX10_product 1 = .ok (.invokevirtual 174, 3) := by decide +kernel
theorem dX10_product_4 : decode cX10_product 4 = .ok (.lstore_n 1, 1) := by decide +kernel
theorem dX10_product_5 : decode cX10_product 5 = .ok (.aload_n 0, 1) := by decide +kernel
theorem dX10_product_6 : decode cX10_product 6 = .ok (.getfield 129, 3) := by decide +kernel
theorem dX10_product_9 : decode cX10_product 9 = .ok (.iconst (-1), 1) := by decide +kernel
theorem dX10_product_10 : decode cX10_product 10 = .ok (.if_icmp .ne 87, 3) := by decide +kernel
theorem dX10_product_13 : decode cX10_product 13 = .ok (.aload_n 0, 1) := by decide +kernel
theorem dX10_product_14 : decode cX10_product 14 = .ok (.invokevirtual 145, 3) := by decide +kernel
theorem dX10_product_17 : decode cX10_product 17 = .ok (.bipush 42, 2) := by decide +kernel
theorem dX10_product_19 : decode cX10_product 19 = .ok (.if_icmp .eq 12, 3) := by decide +kernel
theorem dX10_product_22 : decode cX10_product 22 = .ok (.aload_n 0, 1) := by decide +kernel
theorem dX10_product_23 : decode cX10_product 23 = .ok (.invokevirtual 145, 3) := by decide +kernel
theorem dX10_product_26 : decode cX10_product 26 = .ok (.bipush 47, 2) := by decide +kernel
theorem dX10_product_28 : decode cX10_product 28 = .ok (.if_icmp .ne 69, 3) := by decide +kernel
theorem dX10_product_31 : decode cX10_product 31 = .ok (.aload_n 0, 1) := by decide +kernel
theorem dX10_product_32 : decode cX10_product 32 = .ok (.invokevirtual 145, 3) := by decide +kernel
theorem dX10_product_35 : decode cX10_product 35 = .ok (.bipush 42, 2) := by decide +kernel
theorem dX10_product_37 : decode cX10_product 37 = .ok (.if_icmp .ne 7, 3) := by decide +kernel
theorem dX10_product_40 : decode cX10_product 40 = .ok (.iconst 1, 1) := by decide +kernel
theorem dX10_product_41 : decode cX10_product 41 = .ok (.goto 4, 3) := by decide +kernel
theorem dX10_product_44 : decode cX10_product 44 = .ok (.iconst 0, 1) := by decide +kernel
theorem dX10_product_45 : decode cX10_product 45 = .ok (.istore_n 3, 1) := by decide +kernel
theorem dX10_product_46 : decode cX10_product 46 = .ok (.aload_n 0, 1) := by decide +kernel
theorem dX10_product_47 : decode cX10_product 47 = .ok (.dup, 1) := by decide +kernel
theorem dX10_product_48 : decode cX10_product 48 = .ok (.getfield 120, 3) := by decide +kernel
theorem dX10_product_51 : decode cX10_product 51 = .ok (.iconst 1, 1) := by decide +kernel
theorem dX10_product_52 : decode cX10_product 52 = .ok (.iadd, 1) := by decide +kernel
theorem dX10_product_53 : decode cX10_product 53 = .ok (.putfield 120, 3) := by decide +kernel
theorem dX10_product_56 : decode cX10_product 56 = .ok (.aload_n 0, 1) := by decide +kernel
theorem dX10_product_57 : decode cX10_product 57 = .ok (.invokevirtual 174, 3) := by decide +kernel
theorem dX10_product_60 : decode cX10_product 60 = .ok (.lstore 4, 2) := by decide +kernel
theorem dX10_product_62 : decode cX10_product 62 = .ok (.iload_n 3, 1) := by decide +kernel
theorem dX10_product_63 : decode cX10_product 63 = .ok (.ifCond .eq 10, 3) := by decide +kernel
theorem dX10_product_66 : decode cX10_product 66 = .ok (.lload_n 1, 1) := by decide +kernel
theorem dX10_product_67 : decode cX10_product 67 = .ok (.lload 4, 2) := by decide +kernel
theorem dX10_product_69 : decode cX10_product 69 = .ok (.lmul, 1) := by decide +kernel
theorem dX10_product_70 : decode cX10_product 70 = .ok (.goto 20, 3) := by decide +kernel
theorem dX10_product_73 : decode cX10_product 73 = .ok (.lload 4, 2) := by decide +kernel
theorem dX10_product_75 : decode cX10_product 75 = .ok (.lconst 0, 1) := by decide +kernel
theorem dX10_product_76 : decode cX10_product 76 = .ok (.lcmp, 1) := by decide +kernel
theorem dX10_product_77 : decode cX10_product 77 = .ok (.ifCond .ne 7, 3) := by decide +kernel
theorem dX10_product_80 : decode cX10_product 80 = .ok (.lconst 0, 1) := by decide +kernel
theorem dX10_product_81 : decode cX10_product 81 = .ok (.goto 9, 3) := by decide +kernel
theorem dX10_product_84 : decode cX10_product 84 = .ok (.lload_n 1, 1) := by decide +kernel
theorem dX10_product_85 : decode cX10_product 85 = .ok (.lload 4, 2) := by decide +kernel
theorem dX10_product_87 : decode cX10_product 87 = .ok (.invokestatic 177, 3) := by decide +kernel
theorem dX10_product_90 : decode cX10_product 90 = .ok (.invokestatic 180, 3) := by decide +kernel
theorem dX10_product_93 : decode cX10_product 93 = .ok (.lstore_n 1, 1) := by decide +kernel
theorem dX10_product_94 : decode cX10_product 94 = .ok (.goto (-89), 3) := by decide +kernel
theorem dX10_product_97 : decode cX10_product 97 = .ok (.lload_n 1, 1) := by decide +kernel
theorem dX10_product_98 : decode cX10_product 98 = .ok (.lreturn, 1) := by decide +kernel
set_option maxRecDepth 20000 in
theorem ggX10_sums_X10_product : GoodIn wsX10_sums wsX10_product := goodIn_r _ [43, 1, 2, 44, 45, 46, 6, 7, 8, 9, 10, 11, 12, 13, 47, 48, 49, 50, 14, 15, 16, 17, 18, 19, 20, 21, 22, 23, 24, 25, 26, 27, 28, 29, 30, 31, 32, 33, 34, 35, 36, 37, 38, 39, 40, 41, 42, 0, 3, 4, 5, 51, 52, 53, 54, 55, 56, 57, 58, 59, 60, 61, 62, 63, 64, 65, 66, 67, 68, 69, 70, 71, 72, 73, 74, 75, 76, 77, 78, 79, 80, 81, 82, 83, 84, 85, 86, 87, 88, 89, 90, 91, 92, 93, 94, 95, 96, 97, 98, 99, 100] (by decide +kernel) (by decide +kernel)
set_option maxRecDepth 20000 in
theorem gX10_sums_X10_product : GoodIn wsX10_sums (wsV RX10 184 RX10 yX10_product wsX10_product) := goodIn_app (goodIn_of _ (by decide +kernel)) ggX10_sums_X10_product
set_option maxRecDepth 20000 in
theorem ggX10_sums_X10_look : GoodIn wsX10_sums wsX10_look := goodIn_r _ [10, 2, 11, 12, 13, 51, 52, 53, 54, 55, 56, 57, 58, 59, 60, 61, 62, 63, 64, 65, 66, 67, 68, 69, 70, 71, 72, 73, 74, 75, 76, 77, 78, 79, 80, 81, 82, 83, 84, 85, 86, 87, 88, 89, 90, 91, 92, 93, 94, 95, 96, 97, 98, 99, 100] (by decide +kernel) (by decide +kernel)
set_option maxRecDepth 20000 in
theorem gX10_sums_X10_look : GoodIn wsX10_sums (wsV RX10 145 RX10 yX10_look wsX10_look) := goodIn_app (goodIn_of _ (by decide +kernel)) ggX10_sums_X10_look
set_option maxRecDepth 20000 in
theorem ggX10_sums_X10_bound : GoodIn wsX10_sums wsX10_bound := goodIn_r _ [16, 17, 18, 19, 20, 21, 22, 23, 24, 25] (by decide +kernel) (by decide +kernel)
set_option maxRecDepth 20000 in
theorem gX10_sums_X10_bound : GoodIn wsX10_sums (va_wsS RX10 180 yX10_bound wsX10_bound) := goodIn_app (goodIn_of _ (by decide +kernel)) ggX10_sums_X10_bound
theorem dX10_sums_0 : decode cX10_sums 0 = .ok (.aload_n 0, 1) := by decide +kernel
theorem dX10_sums_1 : decode cX10_sums 1 = .ok (.invokevirtual 184, 3) := by decide +kernel
theorem dX10_sums_4 : decode cX10_sums 4 = .ok (.lstore_n 1, 1) := by decide +kernel
theorem dX10_sums_5 : decode cX10_sums 5 = .ok (.aload_n 0, 1) := by decide +kernel
theorem dX10_sums_6 : decode cX10_sums 6 = .ok (.getfield 129, 3) := by decide +kernel
theorem dX10_sums_9 : decode cX10_sums 9 = .ok (.iconst (-1), 1) := by decide +kernel
theorem dX10_sums_10 : decode cX10_sums 10 = .ok (.if_icmp .ne 74, 3) := by decide +kernel
theorem dX10_sums_13 : decode cX10_sums 13 = .ok (.aload_n 0, 1) := by decide +kernel
theorem dX10_sums_14 : decode cX10_sums 14 = .ok (.invokevirtual 145, 3) := by decide +kernel
theorem dX10_sums_17 : decode cX10_sums 17 = .ok (.bipush 43, 2) := by decide +kernel
theorem dX10_sums_19 : decode cX10_sums 19 = .ok (.if_icmp .eq 12, 3) := by decide +kernel
theorem dX10_sums_22 : decode cX10_sums 22 = .ok (.aload_n 0, 1) := by decide +kernel
theorem dX10_sums_23 : decode cX10_sums 23 = .ok (.invokevirtual 145, 3) := by decide +kernel
theorem dX10_sums_26 : decode cX10_sums 26 = .ok (.bipush 45, 2) := by decide +kernel
theorem dX10_sums_28 : decode cX10_sums 28 = .ok (.if_icmp .ne 56, 3) := by decide +kernel
theorem dX10_sums_31 : decode cX10_sums 31 = .ok (.aload_n 0, 1) := by decide +kernel
theorem dX10_sums_32 : decode cX10_sums 32 = .ok (.invokevirtual 145, 3) := by decide +kernel
theorem dX10_sums_35 : decode cX10_sums 35 = .ok (.bipush 43, 2) := by decide +kernel
theorem dX10_sums_37 : decode cX10_sums 37 = .ok (.if_icmp .ne 7, 3) := by decide +kernel
theorem dX10_sums_40 : decode cX10_sums 40 = .ok (.iconst 1, 1) := by decide +kernel
theorem dX10_sums_41 : decode cX10_sums 41 = .ok (.goto 4, 3) := by decide +kernel
theorem dX10_sums_44 : decode cX10_sums 44 = .ok (.iconst 0, 1) := by decide +kernel
theorem dX10_sums_45 : decode cX10_sums 45 = .ok (.istore_n 3, 1) := by decide +kernel
theorem dX10_sums_46 : decode cX10_sums 46 = .ok (.aload_n 0, 1) := by decide +kernel
theorem dX10_sums_47 : decode cX10_sums 47 = .ok (.dup, 1) := by decide +kernel
theorem dX10_sums_48 : decode cX10_sums 48 = .ok (.getfield 120, 3) := by decide +kernel
theorem dX10_sums_51 : decode cX10_sums 51 = .ok (.iconst 1, 1) := by decide +kernel
theorem dX10_sums_52 : decode cX10_sums 52 = .ok (.iadd, 1) := by decide +kernel
theorem dX10_sums_53 : decode cX10_sums 53 = .ok (.putfield 120, 3) := by decide +kernel
theorem dX10_sums_56 : decode cX10_sums 56 = .ok (.aload_n 0, 1) := by decide +kernel
theorem dX10_sums_57 : decode cX10_sums 57 = .ok (.invokevirtual 184, 3) := by decide +kernel
theorem dX10_sums_60 : decode cX10_sums 60 = .ok (.lstore 4, 2) := by decide +kernel
theorem dX10_sums_62 : decode cX10_sums 62 = .ok (.iload_n 3, 1) := by decide +kernel
theorem dX10_sums_63 : decode cX10_sums 63 = .ok (.ifCond .eq 10, 3) := by decide +kernel
theorem dX10_sums_66 : decode cX10_sums 66 = .ok (.lload_n 1, 1) := by decide +kernel
theorem dX10_sums_67 : decode cX10_sums 67 = .ok (.lload 4, 2) := by decide +kernel
theorem dX10_sums_69 : decode cX10_sums 69 = .ok (.ladd, 1) := by decide +kernel
theorem dX10_sums_70 : decode cX10_sums 70 = .ok (.goto 7, 3) := by decide +kernel
theorem dX10_sums_73 : decode cX10_sums 73 = .ok (.lload_n 1, 1) := by decide +kernel
theorem dX10_sums_74 : decode cX10_sums 74 = .ok (.lload 4, 2) := by decide +kernel
theorem dX10_sums_76 : decode cX10_sums 76 = .ok (.lsub, 1) := by decide +kernel
theorem dX10_sums_77 : decode cX10_sums 77 = .ok (.invokestatic 180, 3) := by decide +kernel
theorem dX10_sums_80 : decode cX10_sums 80 = .ok (.lstore_n 1, 1) := by decide +kernel
theorem dX10_sums_81 : decode cX10_sums 81 = .ok (.goto (-76), 3) := by decide +kernel
theorem dX10_sums_84 : decode cX10_sums 84 = .ok (.lload_n 1, 1) := by decide +kernel
theorem dX10_sums_85 : decode cX10_sums 85 = .ok (.lreturn, 1) := by decide +kernel
set_option maxRecDepth 20000 in
theorem ggX10_goThrough_X10_sums : GoodIn wsX10_goThrough wsX10_sums := goodIn_r _ [13, 6, 4, 14, 15, 16, 12, 17, 18, 19, 20, 3, 1, 2, 21, 22, 23, 24, 25, 26, 27, 28, 29, 30, 31, 32, 33, 7, 8, 5, 34, 35, 36, 37, 38, 39, 9, 10, 11, 40, 41, 42, 43, 44, 45, 46, 47, 48, 49, 50, 51, 52, 53, 54, 55, 56, 57, 58, 59, 60, 61, 62, 63, 64, 65, 66, 67, 68, 69, 70, 71, 72, 73, 74, 75, 76, 77, 78, 79, 80, 81, 82, 83, 84, 85, 86, 87, 88, 89, 90, 91, 92, 93, 94, 95, 96, 97, 98, 99, 100, 101] (by decide +kernel) (by decide +kernel)
set_option maxRecDepth 20000 in
theorem gX10_goThrough_X10_sums : GoodIn wsX10_goThrough (wsV RX10 163 RX10 yX10_sums wsX10_sums) := goodIn_app (goodIn_of _ (by decide +kernel)) ggX10_goThrough_X10_sums
set_option maxRecDepth 20000 in
theorem ggX10_goThrough_X10_look : GoodIn wsX10_goThrough wsX10_look := goodIn_r _ [20, 4, 3, 1, 2, 52, 53, 54, 55, 56, 57, 58, 59, 60, 61, 62, 63, 64, 65, 66, 67, 68, 69, 70, 71, 72, 73, 74, 75, 76, 77, 78, 79, 80, 81, 82, 83, 84, 85, 86, 87, 88, 89, 90, 91, 92, 93, 94, 95, 96, 97, 98, 99, 100, 101] (by decide +kernel) (by decide +kernel)
set_option maxRecDepth 20000 in
theorem gX10_goThrough_X10_look : GoodIn wsX10_goThrough (wsV RX10 145 RX10 yX10_look wsX10_look) := goodIn_app (goodIn_of _ (by decide +kernel)) ggX10_goThrough_X10_look
set_option maxRecDepth 20000 in
theorem ggX10_goThrough_X10_wrong : GoodIn wsX10_goThrough wsX10_wrong := goodIn_r _ [39, 6, 4, 52, 53, 54, 55, 56, 57, 58, 59, 60, 61, 62, 63, 64, 65, 66, 67, 68, 69, 70, 71, 72, 73, 74, 75, 76, 77, 78, 79, 80, 81, 82, 83, 84, 85, 86, 87, 88, 89, 90, 91, 92, 93, 94, 95, 96, 97, 98, 99, 100, 101] (by decide +kernel) (by decide +kernel)
set_option maxRecDepth 20000 in
theorem gX10_goThrough_X10_wrong : GoodIn wsX10_goThrough (wsV RX10 159 RX10 yX10_wrong wsX10_wrong) := goodIn_app (goodIn_of _ (by decide +kernel)) ggX10_goThrough_X10_wrong
theorem dX10_goThrough_0 : decode cX10_goThrough 0 = .ok (.aload_n 0, 1) := by decide +kernel
theorem dX10_goThrough_1 : decode cX10_goThrough 1 = .ok (.aload_n 1, 1) := by decide +kernel
theorem dX10_goThrough_2 : decode cX10_goThrough 2 = .ok (.putfield 77, 3) := by decide +kernel
theorem dX10_goThrough_5 : decode cX10_goThrough 5 = .ok (.aload_n 0, 1) := by decide +kernel
theorem dX10_goThrough_6 : decode cX10_goThrough 6 = .ok (.iload_n 2, 1) := by decide +kernel
theorem dX10_goThrough_7 : decode cX10_goThrough 7 = .ok (.putfield 126, 3) := by decide +kernel
theorem dX10_goThrough_10 : decode cX10_goThrough 10 = .ok (.aload_n 0, 1) := by decide +kernel
theorem dX10_goThrough_11 : decode cX10_goThrough 11 = .ok (.iload_n 3, 1) := by decide +kernel
theorem dX10_goThrough_12 : decode cX10_goThrough 12 = .ok (.putfield 123, 3) := by decide +kernel
theorem dX10_goThrough_15 : decode cX10_goThrough 15 = .ok (.aload_n 0, 1) := by decide +kernel
theorem dX10_goThrough_16 : decode cX10_goThrough 16 = .ok (.iconst 0, 1) := by decide +kernel
theorem dX10_goThrough_17 : decode cX10_goThrough 17 = .ok (.putfield 120, 3) := by decide +kernel
theorem dX10_goThrough_20 : decode cX10_goThrough 20 = .ok (.aload_n 0, 1) := by decide +kernel
theorem dX10_goThrough_21 : decode cX10_goThrough 21 = .ok (.iconst 0, 1) := by decide +kernel
theorem dX10_goThrough_22 : decode cX10_goThrough 22 = .ok (.putfield 156, 3) := by decide +kernel
theorem dX10_goThrough_25 : decode cX10_goThrough 25 = .ok (.aload_n 0, 1) := by decide +kernel
theorem dX10_goThrough_26 : decode cX10_goThrough 26 = .ok (.iconst (-1), 1) := by decide +kernel
theorem dX10_goThrough_27 : decode cX10_goThrough 27 = .ok (.putfield 129, 3) := by decide +kernel
theorem dX10_goThrough_30 : decode cX10_goThrough 30 = .ok (.aload_n 0, 1) := by decide +kernel
theorem dX10_goThrough_31 : decode cX10_goThrough 31 = .ok (.iload 4, 2) := by decide +kernel
theorem dX10_goThrough_33 : decode cX10_goThrough 33 = .ok (.i2l, 1) := by decide +kernel
theorem dX10_goThrough_34 : decode cX10_goThrough 34 = .ok (.putfield 149, 3) := by decide +kernel
theorem dX10_goThrough_37 : decode cX10_goThrough 37 = .ok (.aload_n 0, 1) := by decide +kernel
theorem dX10_goThrough_38 : decode cX10_goThrough 38 = .ok (.iload 5, 2) := by decide +kernel
theorem dX10_goThrough_40 : decode cX10_goThrough 40 = .ok (.i2l, 1) := by decide +kernel
theorem dX10_goThrough_41 : decode cX10_goThrough 41 = .ok (.putfield 153, 3) := by decide +kernel
theorem dX10_goThrough_44 : decode cX10_goThrough 44 = .ok (.aload_n 0, 1) := by decide +kernel
theorem dX10_goThrough_45 : decode cX10_goThrough 45 = .ok (.invokevirtual 163, 3) := by decide +kernel
theorem dX10_goThrough_48 : decode cX10_goThrough 48 = .ok (.lstore 6, 2) := by decide +kernel
theorem dX10_goThrough_50 : decode cX10_goThrough 50 = .ok (.aload_n 0, 1) := by decide +kernel
theorem dX10_goThrough_51 : decode cX10_goThrough 51 = .ok (.getfield 129, 3) := by decide +kernel
theorem dX10_goThrough_54 : decode cX10_goThrough 54 = .ok (.iconst (-1), 1) := by decide +kernel
theorem dX10_goThrough_55 : decode cX10_goThrough 55 = .ok (.if_icmp .ne 16, 3) := by decide +kernel
theorem dX10_goThrough_58 : decode cX10_goThrough 58 = .ok (.aload_n 0, 1) := by decide +kernel
theorem dX10_goThrough_59 : decode cX10_goThrough 59 = .ok (.invokevirtual 145, 3) := by decide +kernel
theorem dX10_goThrough_62 : decode cX10_goThrough 62 = .ok (.iconst (-1), 1) := by decide +kernel
theorem dX10_goThrough_63 : decode cX10_goThrough 63 = .ok (.if_icmp .eq 8, 3) := by decide +kernel
theorem dX10_goThrough_66 : decode cX10_goThrough 66 = .ok (.aload_n 0, 1) := by decide +kernel
theorem dX10_goThrough_67 : decode cX10_goThrough 67 = .ok (.invokevirtual 159, 3) := by decide +kernel
theorem dX10_goThrough_70 : decode cX10_goThrough 70 = .ok (.lreturn, 1) := by decide +kernel
theorem dX10_goThrough_71 : decode cX10_goThrough 71 = .ok (.lload 6, 2) := by decide +kernel
theorem dX10_goThrough_73 : decode cX10_goThrough 73 = .ok (.lreturn, 1) := by decide +kernel
set_option maxRecDepth 20000 in
theorem ggX10_fault_X10_goThrough : GoodIn wsX10_fault wsX10_goThrough := goodIn_r _ [9, 10, 11, 12, 13, 14, 4, 15, 16, 17, 18, 19, 8, 20, 21, 22, 23, 24, 25, 26, 27, 28, 29, 30, 31, 32, 33, 34, 35, 36, 37, 38, 39, 40, 41, 42, 43, 44, 45, 46, 47, 48, 49, 50, 51, 52, 53, 54, 55, 56, 57, 58, 59, 60, 61, 62, 63, 64, 65, 66, 67, 68, 69, 70, 71, 72, 73, 74, 75, 76, 77, 78, 79, 80, 81, 82, 83, 84, 85, 86, 87, 88, 89, 90, 91, 92, 93, 94, 95, 96, 97, 98, 99, 100, 101, 102, 103, 104, 105, 106, 107, 108] (by decide +kernel) (by decide +kernel)
set_option maxRecDepth 20000 in
theorem gX10_fault_X10_goThrough : GoodIn wsX10_fault (wsV RX10 187 RX10 yX10_goThrough wsX10_goThrough) := goodIn_app (goodIn_of _ (by decide +kernel)) ggX10_fault_X10_goThrough
theorem dX10_fault_0 : decode cX10_fault 0 = .ok (.aload_n 0, 1) := by decide +kernel
theorem dX10_fault_1 : decode cX10_fault 1 = .ok (.iconst 0, 1) := by decide +kernel
theorem dX10_fault_2 : decode cX10_fault 2 = .ok (.putfield 106, 3) := by decide +kernel
theorem dX10_fault_5 : decode cX10_fault 5 = .ok (.aload_n 0, 1) := by decide +kernel
theorem dX10_fault_6 : decode cX10_fault 6 = .ok (.aload_n 0, 1) := by decide +kernel
theorem dX10_fault_7 : decode cX10_fault 7 = .ok (.getfield 9, 3) := by decide +kernel
theorem dX10_fault_10 : decode cX10_fault 10 = .ok (.iconst 0, 1) := by decide +kernel
theorem dX10_fault_11 : decode cX10_fault 11 = .ok (.aload_n 0, 1) := by decide +kernel
theorem dX10_fault_12 : decode cX10_fault 12 = .ok (.getfield 109, 3) := by decide +kernel
theorem dX10_fault_15 : decode cX10_fault 15 = .ok (.iconst 1, 1) := by decide +kernel
theorem dX10_fault_16 : decode cX10_fault 16 = .ok (.iconst 1, 1) := by decide +kernel
theorem dX10_fault_17 : decode cX10_fault 17 = .ok (.invokevirtual 187, 3) := by decide +kernel
theorem dX10_fault_20 : decode cX10_fault 20 = .ok (.lstore_n 1, 1) := by decide +kernel
theorem dX10_fault_21 : decode cX10_fault 21 = .ok (.aload_n 0, 1) := by decide +kernel
theorem dX10_fault_22 : decode cX10_fault 22 = .ok (.getfield 129, 3) := by decide +kernel
theorem dX10_fault_25 : decode cX10_fault 25 = .ok (.ireturn, 1) := by decide +kernel
set_option maxRecDepth 20000 in
theorem ggX10_isLaterDay_X10_isIn : GoodIn wsX10_isLaterDay wsX10_isIn := goodIn_r _ [4] (by decide +kernel) (by decide +kernel)
set_option maxRecDepth 20000 in
theorem gX10_isLaterDay_X10_isIn : GoodIn wsX10_isLaterDay (va_wsS RX10 191 yX10_isIn wsX10_isIn) := goodIn_app (goodIn_of _ (by decide +kernel)) ggX10_isLaterDay_X10_isIn
theorem dX10_isLaterDay_0 : decode cX10_isLaterDay 0 = .ok (.iload_n 0, 1) := by decide +kernel
theorem dX10_isLaterDay_1 : decode cX10_isLaterDay 1 = .ok (.iconst 0, 1) := by decide +kernel
theorem dX10_isLaterDay_2 : decode cX10_isLaterDay 2 = .ok (.sipush 500, 3) := by decide +kernel
theorem dX10_isLaterDay_5 : decode cX10_isLaterDay 5 = .ok (.invokestatic 191, 3) := by decide +kernel
theorem dX10_isLaterDay_8 : decode cX10_isLaterDay 8 = .ok (.ireturn, 1) := by decide +kernel
set_option maxRecDepth 20000 in
theorem ggX10_law_X10_goThrough : GoodIn wsX10_law wsX10_goThrough := goodIn_r _ [15, 16, 17, 18, 19, 20, 4, 21, 22, 23, 24, 25, 14, 26, 27, 28, 29, 30, 31, 32, 33, 34, 35, 36, 37, 38, 39, 40, 41, 42, 43, 44, 45, 46, 47, 48, 49, 50, 51, 52, 53, 54, 55, 56, 57, 58, 59, 60, 61, 62, 63, 64, 71, 72, 73, 74, 75, 76, 77, 78, 79, 80, 81, 82, 83, 84, 85, 86, 87, 88, 89, 90, 91, 92, 93, 94, 95, 96, 97, 98, 99, 100, 101, 102, 103, 104, 105, 106, 107, 108, 109, 110, 111, 112, 113, 114, 115, 116, 117, 118, 119, 120] (by decide +kernel) (by decide +kernel)
set_option maxRecDepth 20000 in
theorem gX10_law_X10_goThrough : GoodIn wsX10_law (wsV RX10 187 RX10 yX10_goThrough wsX10_goThrough) := goodIn_app (goodIn_of _ (by decide +kernel)) ggX10_law_X10_goThrough
set_option maxRecDepth 20000 in
theorem ggX10_law_X10_isLaterDay : GoodIn wsX10_law wsX10_isLaterDay := goodIn_r _ [67, 68, 69, 14, 70] (by decide +kernel) (by decide +kernel)
set_option maxRecDepth 20000 in
theorem gX10_law_X10_isLaterDay : GoodIn wsX10_law (va_wsS RX10 195 yX10_isLaterDay wsX10_isLaterDay) := goodIn_app (goodIn_of _ (by decide +kernel)) ggX10_law_X10_isLaterDay
theorem dX10_law_0 : decode cX10_law 0 = .ok (.aload_n 0, 1) := by decide +kernel
theorem dX10_law_1 : decode cX10_law 1 = .ok (.iconst 0, 1) := by decide +kernel
theorem dX10_law_2 : decode cX10_law 2 = .ok (.putfield 106, 3) := by decide +kernel
theorem dX10_law_5 : decode cX10_law 5 = .ok (.aload_n 0, 1) := by decide +kernel
theorem dX10_law_6 : decode cX10_law 6 = .ok (.aload_n 0, 1) := by decide +kernel
theorem dX10_law_7 : decode cX10_law 7 = .ok (.getfield 9, 3) := by decide +kernel
theorem dX10_law_10 : decode cX10_law 10 = .ok (.iconst 0, 1) := by decide +kernel
theorem dX10_law_11 : decode cX10_law 11 = .ok (.aload_n 0, 1) := by decide +kernel
theorem dX10_law_12 : decode cX10_law 12 = .ok (.getfield 109, 3) := by decide +kernel
theorem dX10_law_15 : decode cX10_law 15 = .ok (.iconst 1, 1) := by decide +kernel
theorem dX10_law_16 : decode cX10_law 16 = .ok (.iconst 1, 1) := by decide +kernel
theorem dX10_law_17 : decode cX10_law 17 = .ok (.invokevirtual 187, 3) := by decide +kernel
theorem dX10_law_20 : decode cX10_law 20 = .ok (.lstore_n 2, 1) := by decide +kernel
theorem dX10_law_21 : decode cX10_law 21 = .ok (.aload_n 0, 1) := by decide +kernel
theorem dX10_law_22 : decode cX10_law 22 = .ok (.getfield 129, 3) := by decide +kernel
theorem dX10_law_25 : decode cX10_law 25 = .ok (.iconst (-1), 1) := by decide +kernel
theorem dX10_law_26 : decode cX10_law 26 = .ok (.if_icmp .ne 19, 3) := by decide +kernel
theorem dX10_law_29 : decode cX10_law 29 = .ok (.iload_n 1, 1) := by decide +kernel
theorem dX10_law_30 : decode cX10_law 30 = .ok (.invokestatic 195, 3) := by decide +kernel
theorem dX10_law_33 : decode cX10_law 33 = .ok (.ifCond .eq 12, 3) := by decide +kernel
theorem dX10_law_36 : decode cX10_law 36 = .ok (.aload_n 0, 1) := by decide +kernel
theorem dX10_law_37 : decode cX10_law 37 = .ok (.getfield 199, 3) := by decide +kernel
theorem dX10_law_40 : decode cX10_law 40 = .ok (.bipush 20, 2) := by decide +kernel
theorem dX10_law_42 : decode cX10_law 42 = .ok (.if_icmp .ne 5, 3) := by decide +kernel
theorem dX10_law_45 : decode cX10_law 45 = .ok (.iconst (-1), 1) := by decide +kernel
theorem dX10_law_46 : decode cX10_law 46 = .ok (.ireturn, 1) := by decide +kernel
theorem dX10_law_47 : decode cX10_law 47 = .ok (.iconst 0, 1) := by decide +kernel
theorem dX10_law_48 : decode cX10_law 48 = .ok (.istore 4, 2) := by decide +kernel
theorem dX10_law_50 : decode cX10_law 50 = .ok (.iload 4, 2) := by decide +kernel
theorem dX10_law_52 : decode cX10_law 52 = .ok (.aload_n 0, 1) := by decide +kernel
theorem dX10_law_53 : decode cX10_law 53 = .ok (.getfield 109, 3) := by decide +kernel
theorem dX10_law_56 : decode cX10_law 56 = .ok (.if_icmp .ge 31, 3) := by decide +kernel
theorem dX10_law_59 : decode cX10_law 59 = .ok (.aload_n 0, 1) := by decide +kernel
theorem dX10_law_60 : decode cX10_law 60 = .ok (.getfield 13, 3) := by decide +kernel
theorem dX10_law_63 : decode cX10_law 63 = .ok (.bipush 120, 2) := by decide +kernel
theorem dX10_law_65 : decode cX10_law 65 = .ok (.aload_n 0, 1) := by decide +kernel
theorem dX10_law_66 : decode cX10_law 66 = .ok (.getfield 199, 3) := by decide +kernel
theorem dX10_law_69 : decode cX10_law 69 = .ok (.imul, 1) := by decide +kernel
theorem dX10_law_70 : decode cX10_law 70 = .ok (.iload 4, 2) := by decide +kernel
theorem dX10_law_72 : decode cX10_law 72 = .ok (.iadd, 1) := by decide +kernel
theorem dX10_law_73 : decode cX10_law 73 = .ok (.aload_n 0, 1) := by decide +kernel
theorem dX10_law_74 : decode cX10_law 74 = .ok (.getfield 9, 3) := by decide +kernel
theorem dX10_law_77 : decode cX10_law 77 = .ok (.iload 4, 2) := by decide +kernel
theorem dX10_law_79 : decode cX10_law 79 = .ok (.baload, 1) := by decide +kernel
theorem dX10_law_80 : decode cX10_law 80 = .ok (.bastore, 1) := by decide +kernel
theorem dX10_law_81 : decode cX10_law 81 = .ok (.iinc 4 1, 3) := by decide +kernel
theorem dX10_law_84 : decode cX10_law 84 = .ok (.goto (-34), 3) := by decide +kernel
theorem dX10_law_87 : decode cX10_law 87 = .ok (.aload_n 0, 1) := by decide +kernel
theorem dX10_law_88 : decode cX10_law 88 = .ok (.getfield 16, 3) := by decide +kernel
theorem dX10_law_91 : decode cX10_law 91 = .ok (.aload_n 0, 1) := by decide +kernel
theorem dX10_law_92 : decode cX10_law 92 = .ok (.getfield 199, 3) := by decide +kernel
theorem dX10_law_95 : decode cX10_law 95 = .ok (.aload_n 0, 1) := by decide +kernel
theorem dX10_law_96 : decode cX10_law 96 = .ok (.getfield 109, 3) := by decide +kernel
theorem dX10_law_99 : decode cX10_law 99 = .ok (.iastore, 1) := by decide +kernel
theorem dX10_law_100 : decode cX10_law 100 = .ok (.aload_n 0, 1) := by decide +kernel
theorem dX10_law_101 : decode cX10_law 101 = .ok (.getfield 20, 3) := by decide +kernel
theorem dX10_law_104 : decode cX10_law 104 = .ok (.aload_n 0, 1) := by decide +kernel
theorem dX10_law_105 : decode cX10_law 105 = .ok (.getfield 199, 3) := by decide +kernel
theorem dX10_law_108 : decode cX10_law 108 = .ok (.iload_n 1, 1) := by decide +kernel
theorem dX10_law_109 : decode cX10_law 109 = .ok (.iastore, 1) := by decide +kernel
theorem dX10_law_110 : decode cX10_law 110 = .ok (.aload_n 0, 1) := by decide +kernel
theorem dX10_law_111 : decode cX10_law 111 = .ok (.getfield 23, 3) := by decide +kernel
theorem dX10_law_114 : decode cX10_law 114 = .ok (.aload_n 0, 1) := by decide +kernel
theorem dX10_law_115 : decode cX10_law 115 = .ok (.getfield 199, 3) := by decide +kernel
theorem dX10_law_118 : decode cX10_law 118 = .ok (.aload_n 0, 1) := by decide +kernel
theorem dX10_law_119 : decode cX10_law 119 = .ok (.getfield 202, 3) := by decide +kernel
theorem dX10_law_122 : decode cX10_law 122 = .ok (.iastore, 1) := by decide +kernel
theorem dX10_law_123 : decode cX10_law 123 = .ok (.aload_n 0, 1) := by decide +kernel
theorem dX10_law_124 : decode cX10_law 124 = .ok (.dup, 1) := by decide +kernel
theorem dX10_law_125 : decode cX10_law 125 = .ok (.getfield 199, 3) := by decide +kernel
theorem dX10_law_128 : decode cX10_law 128 = .ok (.iconst 1, 1) := by decide +kernel
theorem dX10_law_129 : decode cX10_law 129 = .ok (.iadd, 1) := by decide +kernel
theorem dX10_law_130 : decode cX10_law 130 = .ok (.putfield 199, 3) := by decide +kernel
theorem dX10_law_133 : decode cX10_law 133 = .ok (.aload_n 0, 1) := by decide +kernel
theorem dX10_law_134 : decode cX10_law 134 = .ok (.iconst 0, 1) := by decide +kernel
theorem dX10_law_135 : decode cX10_law 135 = .ok (.putfield 109, 3) := by decide +kernel
theorem dX10_law_138 : decode cX10_law 138 = .ok (.aload_n 0, 1) := by decide +kernel
theorem dX10_law_139 : decode cX10_law 139 = .ok (.getfield 199, 3) := by decide +kernel
theorem dX10_law_142 : decode cX10_law 142 = .ok (.iconst 1, 1) := by decide +kernel
theorem dX10_law_143 : decode cX10_law 143 = .ok (.isub, 1) := by decide +kernel
theorem dX10_law_144 : decode cX10_law 144 = .ok (.ireturn, 1) := by decide +kernel
set_option maxRecDepth 20000 in
theorem ggX10_lawValue_X10_goThrough : GoodIn wsX10_lawValue wsX10_goThrough := goodIn_r _ [7, 8, 9, 10, 11, 12, 13, 14, 15, 16, 17, 18, 6, 19, 20, 21, 22, 23, 24, 25, 26, 27, 28, 29, 30, 31, 32, 33, 34, 35, 36, 37, 38, 39, 40, 41, 42, 43, 44, 45, 46, 47, 48, 49, 50, 51, 52, 53, 54, 55, 56, 57, 58, 59, 60, 61, 62, 63, 64, 65, 66, 67, 68, 69, 70, 71, 72, 73, 74, 75, 76, 77, 78, 79, 80, 81, 82, 83, 84, 85, 86, 87, 88, 89, 90, 91, 92, 93, 94, 95, 96, 97, 98, 99, 100, 101, 102, 103, 104, 105, 106, 107] (by decide +kernel) (by decide +kernel)
set_option maxRecDepth 20000 in
theorem gX10_lawValue_X10_goThrough : GoodIn wsX10_lawValue (wsV RX10 187 RX10 yX10_goThrough wsX10_goThrough) := goodIn_app (goodIn_of _ (by decide +kernel)) ggX10_lawValue_X10_goThrough
theorem dX10_lawValue_0 : decode cX10_lawValue 0 = .ok (.aload_n 0, 1) := by decide +kernel
theorem dX10_lawValue_1 : decode cX10_lawValue 1 = .ok (.aload_n 0, 1) := by decide +kernel
theorem dX10_lawValue_2 : decode cX10_lawValue 2 = .ok (.getfield 13, 3) := by decide +kernel
theorem dX10_lawValue_5 : decode cX10_lawValue 5 = .ok (.bipush 120, 2) := by decide +kernel
theorem dX10_lawValue_7 : decode cX10_lawValue 7 = .ok (.iload_n 1, 1) := by decide +kernel
theorem dX10_lawValue_8 : decode cX10_lawValue 8 = .ok (.imul, 1) := by decide +kernel
theorem dX10_lawValue_9 : decode cX10_lawValue 9 = .ok (.aload_n 0, 1) := by decide +kernel
theorem dX10_lawValue_10 : decode cX10_lawValue 10 = .ok (.getfield 16, 3) := by decide +kernel
theorem dX10_lawValue_13 : decode cX10_lawValue 13 = .ok (.iload_n 1, 1) := by decide +kernel
theorem dX10_lawValue_14 : decode cX10_lawValue 14 = .ok (.iaload, 1) := by decide +kernel
theorem dX10_lawValue_15 : decode cX10_lawValue 15 = .ok (.iload_n 2, 1) := by decide +kernel
theorem dX10_lawValue_16 : decode cX10_lawValue 16 = .ok (.iload_n 3, 1) := by decide +kernel
theorem dX10_lawValue_17 : decode cX10_lawValue 17 = .ok (.invokevirtual 187, 3) := by decide +kernel
theorem dX10_lawValue_20 : decode cX10_lawValue 20 = .ok (.lreturn, 1) := by decide +kernel
set_option maxRecDepth 20000 in
theorem ggX10_value_X10_isIn : GoodIn wsX10_value wsX10_isIn := goodIn_r _ [6] (by decide +kernel) (by decide +kernel)
set_option maxRecDepth 20000 in
theorem gX10_value_X10_isIn : GoodIn wsX10_value (va_wsS RX10 191 yX10_isIn wsX10_isIn) := goodIn_app (goodIn_of _ (by decide +kernel)) ggX10_value_X10_isIn
set_option maxRecDepth 20000 in
theorem ggX10_value_X10_lawValue : GoodIn wsX10_value wsX10_lawValue := goodIn_r _ [10, 11, 12, 13, 14, 15, 5, 16, 17, 18, 19, 20, 21, 22, 23, 24, 25, 26, 27, 28, 29, 30, 31, 32, 33, 34, 35, 36, 37, 38, 39, 40, 41, 42, 43, 44, 45, 46, 47, 48, 49, 50, 51, 52, 53, 54, 55, 56, 57, 58, 59, 60, 61, 62, 63, 64, 65, 66, 67, 68, 69, 70, 71, 72, 73, 74, 75, 76, 77, 78, 79, 80, 81, 82, 83, 84, 85, 86, 87, 88, 89, 90, 91, 92, 93, 94, 95, 96, 97, 98, 99, 100, 101, 102, 103, 104, 105, 106, 107, 108, 109, 110, 111, 112, 113, 114, 115, 116] (by decide +kernel) (by decide +kernel)
set_option maxRecDepth 20000 in
theorem gX10_value_X10_lawValue : GoodIn wsX10_value (wsV RX10 205 RX10 yX10_lawValue wsX10_lawValue) := goodIn_app (goodIn_of _ (by decide +kernel)) ggX10_value_X10_lawValue
theorem dX10_value_0 : decode cX10_value 0 = .ok (.aload_n 0, 1) := by decide +kernel
theorem dX10_value_1 : decode cX10_value 1 = .ok (.iload_n 1, 1) := by decide +kernel
theorem dX10_value_2 : decode cX10_value 2 = .ok (.iconst 0, 1) := by decide +kernel
theorem dX10_value_3 : decode cX10_value 3 = .ok (.aload_n 0, 1) := by decide +kernel
theorem dX10_value_4 : decode cX10_value 4 = .ok (.getfield 199, 3) := by decide +kernel
theorem dX10_value_7 : decode cX10_value 7 = .ok (.iconst 1, 1) := by decide +kernel
theorem dX10_value_8 : decode cX10_value 8 = .ok (.isub, 1) := by decide +kernel
theorem dX10_value_9 : decode cX10_value 9 = .ok (.invokestatic 191, 3) := by decide +kernel
theorem dX10_value_12 : decode cX10_value 12 = .ok (.ifCond .eq 29, 3) := by decide +kernel
theorem dX10_value_15 : decode cX10_value 15 = .ok (.iload_n 2, 1) := by decide +kernel
theorem dX10_value_16 : decode cX10_value 16 = .ok (.iconst 0, 1) := by decide +kernel
theorem dX10_value_17 : decode cX10_value 17 = .ok (.sipush 1000, 3) := by decide +kernel
theorem dX10_value_20 : decode cX10_value 20 = .ok (.invokestatic 191, 3) := by decide +kernel
theorem dX10_value_23 : decode cX10_value 23 = .ok (.ifCond .eq 18, 3) := by decide +kernel
theorem dX10_value_26 : decode cX10_value 26 = .ok (.iload_n 3, 1) := by decide +kernel
theorem dX10_value_27 : decode cX10_value 27 = .ok (.iconst 0, 1) := by decide +kernel
theorem dX10_value_28 : decode cX10_value 28 = .ok (.sipush 1000, 3) := by decide +kernel
theorem dX10_value_31 : decode cX10_value 31 = .ok (.invokestatic 191, 3) := by decide +kernel
theorem dX10_value_34 : decode cX10_value 34 = .ok (.ifCond .eq 7, 3) := by decide +kernel
theorem dX10_value_37 : decode cX10_value 37 = .ok (.iconst 0, 1) := by decide +kernel
theorem dX10_value_38 : decode cX10_value 38 = .ok (.goto 4, 3) := by decide +kernel
theorem dX10_value_41 : decode cX10_value 41 = .ok (.iconst 1, 1) := by decide +kernel
theorem dX10_value_42 : decode cX10_value 42 = .ok (.putfield 106, 3) := by decide +kernel
theorem dX10_value_45 : decode cX10_value 45 = .ok (.aload_n 0, 1) := by decide +kernel
theorem dX10_value_46 : decode cX10_value 46 = .ok (.getfield 106, 3) := by decide +kernel
theorem dX10_value_49 : decode cX10_value 49 = .ok (.ifCond .le 7, 3) := by decide +kernel
theorem dX10_value_52 : decode cX10_value 52 = .ok (.lconst 0, 1) := by decide +kernel
theorem dX10_value_53 : decode cX10_value 53 = .ok (.goto 10, 3) := by decide +kernel
theorem dX10_value_56 : decode cX10_value 56 = .ok (.aload_n 0, 1) := by decide +kernel
theorem dX10_value_57 : decode cX10_value 57 = .ok (.iload_n 1, 1) := by decide +kernel
theorem dX10_value_58 : decode cX10_value 58 = .ok (.iload_n 2, 1) := by decide +kernel
theorem dX10_value_59 : decode cX10_value 59 = .ok (.iload_n 3, 1) := by decide +kernel
theorem dX10_value_60 : decode cX10_value 60 = .ok (.invokevirtual 205, 3) := by decide +kernel
theorem dX10_value_63 : decode cX10_value 63 = .ok (.lreturn, 1) := by decide +kernel
theorem dX10_inForce_0 : decode cX10_inForce 0 = .ok (.iconst (-1), 1) := by decide +kernel
theorem dX10_inForce_1 : decode cX10_inForce 1 = .ok (.istore_n 3, 1) := by decide +kernel
theorem dX10_inForce_2 : decode cX10_inForce 2 = .ok (.iconst 0, 1) := by decide +kernel
theorem dX10_inForce_3 : decode cX10_inForce 3 = .ok (.istore 4, 2) := by decide +kernel
theorem dX10_inForce_5 : decode cX10_inForce 5 = .ok (.iload 4, 2) := by decide +kernel
theorem dX10_inForce_7 : decode cX10_inForce 7 = .ok (.aload_n 0, 1) := by decide +kernel
theorem dX10_inForce_8 : decode cX10_inForce 8 = .ok (.getfield 199, 3) := by decide +kernel
theorem dX10_inForce_11 : decode cX10_inForce 11 = .ok (.if_icmp .ge 55, 3) := by decide +kernel
theorem dX10_inForce_14 : decode cX10_inForce 14 = .ok (.aload_n 0, 1) := by decide +kernel
theorem dX10_inForce_15 : decode cX10_inForce 15 = .ok (.getfield 23, 3) := by decide +kernel
theorem dX10_inForce_18 : decode cX10_inForce 18 = .ok (.iload 4, 2) := by decide +kernel
theorem dX10_inForce_20 : decode cX10_inForce 20 = .ok (.iaload, 1) := by decide +kernel
theorem dX10_inForce_21 : decode cX10_inForce 21 = .ok (.iload_n 2, 1) := by decide +kernel
theorem dX10_inForce_22 : decode cX10_inForce 22 = .ok (.if_icmp .gt 38, 3) := by decide +kernel
theorem dX10_inForce_25 : decode cX10_inForce 25 = .ok (.aload_n 0, 1) := by decide +kernel
theorem dX10_inForce_26 : decode cX10_inForce 26 = .ok (.getfield 20, 3) := by decide +kernel
theorem dX10_inForce_29 : decode cX10_inForce 29 = .ok (.iload 4, 2) := by decide +kernel
theorem dX10_inForce_31 : decode cX10_inForce 31 = .ok (.iaload, 1) := by decide +kernel
theorem dX10_inForce_32 : decode cX10_inForce 32 = .ok (.iload_n 1, 1) := by decide +kernel
theorem dX10_inForce_33 : decode cX10_inForce 33 = .ok (.if_icmp .gt 27, 3) := by decide +kernel
theorem dX10_inForce_36 : decode cX10_inForce 36 = .ok (.iload_n 3, 1) := by decide +kernel
theorem dX10_inForce_37 : decode cX10_inForce 37 = .ok (.iconst (-1), 1) := by decide +kernel
theorem dX10_inForce_38 : decode cX10_inForce 38 = .ok (.if_icmp .eq 19, 3) := by decide +kernel
theorem dX10_inForce_41 : decode cX10_inForce 41 = .ok (.aload_n 0, 1) := by decide +kernel
theorem dX10_inForce_42 : decode cX10_inForce 42 = .ok (.getfield 20, 3) := by decide +kernel
theorem dX10_inForce_45 : decode cX10_inForce 45 = .ok (.iload 4, 2) := by decide +kernel
theorem dX10_inForce_47 : decode cX10_inForce 47 = .ok (.iaload, 1) := by decide +kernel
theorem dX10_inForce_48 : decode cX10_inForce 48 = .ok (.aload_n 0, 1) := by decide +kernel
theorem dX10_inForce_49 : decode cX10_inForce 49 = .ok (.getfield 20, 3) := by decide +kernel
theorem dX10_inForce_52 : decode cX10_inForce 52 = .ok (.iload_n 3, 1) := by decide +kernel
theorem dX10_inForce_53 : decode cX10_inForce 53 = .ok (.iaload, 1) := by decide +kernel
theorem dX10_inForce_54 : decode cX10_inForce 54 = .ok (.if_icmp .lt 6, 3) := by decide +kernel
theorem dX10_inForce_57 : decode cX10_inForce 57 = .ok (.iload 4, 2) := by decide +kernel
theorem dX10_inForce_59 : decode cX10_inForce 59 = .ok (.istore_n 3, 1) := by decide +kernel
theorem dX10_inForce_60 : decode cX10_inForce 60 = .ok (.iinc 4 1, 3) := by decide +kernel
theorem dX10_inForce_63 : decode cX10_inForce 63 = .ok (.goto (-58), 3) := by decide +kernel
theorem dX10_inForce_66 : decode cX10_inForce 66 = .ok (.iload_n 3, 1) := by decide +kernel
theorem dX10_inForce_67 : decode cX10_inForce 67 = .ok (.ireturn, 1) := by decide +kernel
set_option maxRecDepth 20000 in
theorem ggX10_isKnown_X10_isIn : GoodIn wsX10_isKnown wsX10_isIn := goodIn_r _ [5] (by decide +kernel) (by decide +kernel)
set_option maxRecDepth 20000 in
theorem gX10_isKnown_X10_isIn : GoodIn wsX10_isKnown (va_wsS RX10 191 yX10_isIn wsX10_isIn) := goodIn_app (goodIn_of _ (by decide +kernel)) ggX10_isKnown_X10_isIn
theorem dX10_isKnown_0 : decode cX10_isKnown 0 = .ok (.iload_n 1, 1) := by decide +kernel
theorem dX10_isKnown_1 : decode cX10_isKnown 1 = .ok (.iconst 0, 1) := by decide +kernel
theorem dX10_isKnown_2 : decode cX10_isKnown 2 = .ok (.aload_n 0, 1) := by decide +kernel
theorem dX10_isKnown_3 : decode cX10_isKnown 3 = .ok (.getfield 202, 3) := by decide +kernel
theorem dX10_isKnown_6 : decode cX10_isKnown 6 = .ok (.invokestatic 191, 3) := by decide +kernel
theorem dX10_isKnown_9 : decode cX10_isKnown 9 = .ok (.ireturn, 1) := by decide +kernel
set_option maxRecDepth 20000 in
theorem ggX10_force_X10_isLaterDay : GoodIn wsX10_force wsX10_isLaterDay := goodIn_r _ [5, 6, 7, 4, 8] (by decide +kernel) (by decide +kernel)
set_option maxRecDepth 20000 in
theorem gX10_force_X10_isLaterDay : GoodIn wsX10_force (va_wsS RX10 195 yX10_isLaterDay wsX10_isLaterDay) := goodIn_app (goodIn_of _ (by decide +kernel)) ggX10_force_X10_isLaterDay
set_option maxRecDepth 20000 in
theorem ggX10_force_X10_isKnown : GoodIn wsX10_force wsX10_isKnown := goodIn_r _ [12, 13, 6, 7, 4, 8, 21, 22, 23, 24, 25, 26, 27, 28, 29, 30, 31, 32, 33, 34, 35, 36, 37, 38, 39, 40, 41, 42, 43, 44, 45, 46, 47, 48, 49, 50, 51, 52, 53, 54, 55, 56, 57, 58, 59, 60, 61, 62, 63, 64, 65, 66, 67, 68, 69, 70] (by decide +kernel) (by decide +kernel)
set_option maxRecDepth 20000 in
theorem gX10_force_X10_isKnown : GoodIn wsX10_force (wsV RX10 209 RX10 yX10_isKnown wsX10_isKnown) := goodIn_app (goodIn_of _ (by decide +kernel)) ggX10_force_X10_isKnown
set_option maxRecDepth 20000 in
theorem ggX10_force_X10_inForce : GoodIn wsX10_force wsX10_inForce := goodIn_r _ [17, 18, 19, 20, 21, 22, 23, 24, 25, 26, 27, 28, 29, 30, 31, 32, 33, 34, 35, 36, 37, 38, 39, 40, 41, 42, 43, 44, 45, 46, 47, 48, 49, 50, 51, 52, 53, 54, 55, 56, 57, 58, 59, 60, 61, 62, 63, 64, 65, 66, 67, 68, 69, 70] (by decide +kernel) (by decide +kernel)
set_option maxRecDepth 20000 in
theorem gX10_force_X10_inForce : GoodIn wsX10_force (wsV RX10 212 RX10 yX10_inForce wsX10_inForce) := goodIn_app (goodIn_of _ (by decide +kernel)) ggX10_force_X10_inForce
